/-! the JDK's own methods of a String constant: length and charAt (its bytes are tx, its cell a) -/
theorem kd_J0_coder_7d493 : yJ0_coder_7d493.cls = RJ0 ∧ yJ0_coder_7d493.cls ≠ "java/lang/invoke/MethodHandle" ∧ yJ0_coder_7d493.cls ≠ "java/lang/invoke/VarHandle" ∧ (parseMethodDescriptor yJ0_coder_7d493.desc).map (fun d => d.parameters.length) = some 0 := by decide +kernel
theorem kd_J0_isLatin1_aae02 : yJ0_isLatin1_aae02.cls = RJ0 ∧ yJ0_isLatin1_aae02.cls ≠ "java/lang/invoke/MethodHandle" ∧ yJ0_isLatin1_aae02.cls ≠ "java/lang/invoke/VarHandle" ∧ (parseMethodDescriptor yJ0_isLatin1_aae02.desc).map (fun d => d.parameters.length) = some 0 := by decide +kernel
theorem kd_J0_length_8abf5 : yJ0_length_8abf5.cls = RJ0 ∧ yJ0_length_8abf5.cls ≠ "java/lang/invoke/MethodHandle" ∧ yJ0_length_8abf5.cls ≠ "java/lang/invoke/VarHandle" ∧ (parseMethodDescriptor yJ0_length_8abf5.desc).map (fun d => d.parameters.length) = some 0 := by decide +kernel
theorem kd_J0_charAt_5068e : yJ0_charAt_5068e.cls = RJ0 ∧ yJ0_charAt_5068e.cls ≠ "java/lang/invoke/MethodHandle" ∧ yJ0_charAt_5068e.cls ≠ "java/lang/invoke/VarHandle" ∧ (parseMethodDescriptor yJ0_charAt_5068e.desc).map (fun d => d.parameters.length) = some 1 := by decide +kernel
theorem kd_J3_checkIndex_8e157 : yJ3_checkIndex_8e157.cls ≠ "java/lang/invoke/MethodHandle" ∧ yJ3_checkIndex_8e157.cls ≠ "java/lang/invoke/VarHandle" ∧ (parseMethodDescriptor yJ3_checkIndex_8e157.desc).map (fun d => d.parameters.length) = some 3 := by decide +kernel
theorem kd_J0_checkIndex_df160 : yJ0_checkIndex_df160.cls ≠ "java/lang/invoke/MethodHandle" ∧ yJ0_checkIndex_df160.cls ≠ "java/lang/invoke/VarHandle" ∧ (parseMethodDescriptor yJ0_checkIndex_df160.desc).map (fun d => d.parameters.length) = some 2 := by decide +kernel
theorem kd_J1_charAt_3b067 : yJ1_charAt_3b067.cls ≠ "java/lang/invoke/MethodHandle" ∧ yJ1_charAt_3b067.cls ≠ "java/lang/invoke/VarHandle" ∧ (parseMethodDescriptor yJ1_charAt_3b067.desc).map (fun d => d.parameters.length) = some 2 := by decide +kernel
theorem kStr_recv {tx : List Int32} {a : Nat} {A : Nat → Prop} {s : State} {H : Heap} {locs : List Loc} (h : kStrAt tx a A s s.heap) (hS : va_S A s.heap H locs) : ∃ cell : Cell, H[a]? = some cell ∧ cell.vm.isStatics = false ∧ s.vm.findClass "java/lang/String" = some cell.cls := by
  obtain ⟨cell, h1, h2, h3, -⟩ := h.1.kept hS.2.1
  exact ⟨cell, h1, h2, h3⟩
theorem kshr0 {n : Nat} (h : n < 2 ^ 31) : nI n >>> ((0 : Int32) &&& 31) = nI n := (pk_shrN h _ 0 (by decide)).trans (by rw [Nat.pow_zero, Nat.div_one])
def EB (D : va_G) (cy : Nat → ClassId) (tx : List Int32) (v : Nat) (A : Nat → Prop) (U : State) (H : Heap) : Prop := EN D cy A U H ∧ va_T .byte v tx.length (fun j => .int (tx.getD j 0)) A U H
theorem EB_ok (D : va_G) (cy : Nat → ClassId) (tx : List Int32) (v : Nat) : EOK (EB D cy tx v) := fun A B s U H0 H h hq hAB hW => ⟨EN_ok D cy A B s U H0 H h.1 hq hAB hW, ((va_T.moved hW.alike h.2).kept hq).narrow hAB⟩
set_option maxHeartbeats 4000000 in
set_option maxRecDepth 100000 in
theorem c_J0_coder_7d493 {l : Launch} {D : va_G} {cy : Nat → ClassId} (sz : Nat) (tx : List Int32) (a_tx : Nat) : Met l yJ0_coder_7d493 wsJ0_coder_7d493 ({ frames := 0, cells := 0, slots := 0, locals := 0 } : Room) (kP (ES D cy tx a_tx) D [.ref a_tx] [] sz) (kQi D 0 [] (va_A [] sz)) 0 0 (va_A [] sz) := by
  refine kMet (cc := cJ0_coder_7d493) (maxL := 1) (ret := some .byte) (own := RJ0) (Qc := fun A9 => kQi D 0 [] A9) (by decide) rfl rfl (Nat.le_of_ble_eq_true rfl) ?_
  intro p e s m args below meth c A hx hb hr hts hown hml hlocks hname hE hP hD hA hsz ls hl
  obtain ⟨hE, hT⟩ := hE
  have hl : lv_has ls 1 [(0, .ref a_tx)] := hl
  have hS : va_S A s.heap s.heap [] := va_S.rf
  refine va_gets (v := .int 1) hx hb hE.2.2.2.1 hS hown (hts (.fieldLink RJ0 38 "java/lang/String" "COMPACT_STRINGS" "Z") (by decide +kernel)) (fun _ h9 => h9) dJ0_coder_7d493_0 ?_
  refine lv_if_eq (tgt := 13) hx hb dJ0_coder_7d493_3 (by decide) (fun h => absurd h (by decide)) (fun _ => ?_)
  refine lv_aload_n hx hb dJ0_coder_7d493_6 rfl (lv_at hl 0 rfl) ?_
  refine vk_getf hx hb hT.2.1 hS hown (hts (.fieldLink RJ0 15 "java/lang/String" "coder" "B") (by decide +kernel)) (fun _ h9 => h9) dJ0_coder_7d493_7 ?_
  refine lv_goto (tgt := 14) hx hb dJ0_coder_7d493_10 (by decide) ?_
  exact kr_z hx hb hr hlocks rfl hP hD hS dJ0_coder_7d493_14
set_option maxHeartbeats 4000000 in
set_option maxRecDepth 100000 in
theorem c_J0_isLatin1_aae02 {l : Launch} {D : va_G} {cy : Nat → ClassId} (sz : Nat) (tx : List Int32) (a_tx : Nat) : Met l yJ0_isLatin1_aae02 wsJ0_isLatin1_aae02 ({ frames := 0, cells := 0, slots := 0, locals := 0 } : Room) (kP (ES D cy tx a_tx) D [.ref a_tx] [] sz) (kQi D 1 [] (va_A [] sz)) 0 0 (va_A [] sz) := by
  refine kMet (cc := cJ0_isLatin1_aae02) (maxL := 1) (ret := some .boolean) (own := RJ0) (Qc := fun A9 => kQi D 1 [] A9) (by decide) rfl rfl (Nat.le_of_ble_eq_true rfl) ?_
  intro p e s m args below meth c A hx hb hr hts hown hml hlocks hname hE hP hD hA hsz ls hl
  obtain ⟨hE, hT⟩ := hE
  have hl : lv_has ls 1 [(0, .ref a_tx)] := hl
  have hS : va_S A s.heap s.heap [] := va_S.rf
  refine va_gets (v := .int 1) hx hb hE.2.2.2.1 hS hown (hts (.fieldLink RJ0 38 "java/lang/String" "COMPACT_STRINGS" "Z") (by decide +kernel)) (fun _ h9 => h9) dJ0_isLatin1_aae02_0 ?_
  refine lv_if_eq (tgt := 17) hx hb dJ0_isLatin1_aae02_3 (by decide) (fun h => absurd h (by decide)) (fun _ => ?_)
  refine lv_aload_n hx hb dJ0_isLatin1_aae02_6 rfl (lv_at hl 0 rfl) ?_
  refine vk_getf hx hb hT.2.1 hS hown (hts (.fieldLink RJ0 15 "java/lang/String" "coder" "B") (by decide +kernel)) (fun _ h9 => h9) dJ0_isLatin1_aae02_7 ?_
  refine lv_if_ne (tgt := 17) hx hb dJ0_isLatin1_aae02_10 (by decide) (fun h => absurd rfl h) (fun _ => ?_)
  refine lv_iconst (v := 1) hx hb dJ0_isLatin1_aae02_13 (by decide) ?_
  refine lv_goto (tgt := 18) hx hb dJ0_isLatin1_aae02_14 (by decide) ?_
  exact kr_z hx hb hr hlocks rfl hP hD hS dJ0_isLatin1_aae02_18
/-- length(): a text is shorter than 2 ^ 31 -/
def J0_length_8abf5 (tx : List Int32) : Option Int32 := ck (tx.length < 2147483648) (some (nI tx.length))
set_option maxHeartbeats 4000000 in
set_option maxRecDepth 100000 in
theorem c_J0_length_8abf5 {l : Launch} {D : va_G} {cy : Nat → ClassId} (sz : Nat) (tx : List Int32) (a_tx : Nat) (res : Int32) (hF : J0_length_8abf5 tx = some res) : Met l yJ0_length_8abf5 wsJ0_length_8abf5 ({ frames := 1, cells := 0, slots := 0, locals := 20 } : Room) (kP (ES D cy tx a_tx) D [.ref a_tx] [] sz) (kQi D res [] (va_A [] sz)) 0 0 (va_A [] sz) := by
  refine kMet (cc := cJ0_length_8abf5) (maxL := 1) (ret := some .int) (own := RJ0) (Qc := fun A9 => kQi D res [] A9) (by decide) rfl rfl (Nat.le_of_ble_eq_true rfl) ?_
  intro p e s m args below meth c A hx hb hr hts hown hml hlocks hname hE hP hD hA hsz ls hl
  obtain ⟨hE, hT⟩ := hE
  have hK := hE.1
  obtain ⟨hlen, hF⟩ := ck_o hF
  obtain rfl := so_o hF
  have hl : lv_has ls 1 [(0, .ref a_tx)] := hl
  have hS : va_S A s.heap s.heap [] := va_S.rf
  obtain ⟨v, hv1, hv2⟩ := hT.2.2
  refine lv_aload_n hx hb dJ0_length_8abf5_0 rfl (lv_at hl 0 rfl) ?_
  refine vk_getf hx hb hv1 hS hown (hts (.fieldLink RJ0 9 "java/lang/String" "value" "[B") (by decide +kernel)) (fun _ h9 => h9) dJ0_length_8abf5_1 ?_
  refine va_tlen (v := nI tx.length) hx hb hv2 hS rfl dJ0_length_8abf5_4 ?_
  refine lv_aload_n hx hb dJ0_length_8abf5_5 rfl (lv_at hl 0 rfl) ?_
  refine kc_i0 (va_runV (As := []) (rest := [.int (nI tx.length)]) ⟨hx, hb, hml, hown, hts⟩ (c_J0_coder_7d493 s.heap.size tx a_tx) (cwV 0 hts gJ0_length_8abf5_J0_coder_7d493 rfl rfl rfl kd_J0_coder_7d493 ⟨Nat.le_of_ble_eq_true rfl, Nat.le_of_ble_eq_true rfl⟩) ⟨kP_blind (ES_ok D cy tx a_tx) D _ _ _, kStr_recv hT hS, kStart (ES_ok D cy tx a_tx) (show ES D cy tx a_tx A s s.heap from ⟨hE, hT⟩) hP hD hS hA [] rfl rfl _⟩ rfl rfl hl.1 rfl (lv_room (Nat.le_of_ble_eq_true rfl)) dJ0_length_8abf5_6 ⟨Nat.zero_le _, Nat.zero_le _⟩) hP hD hS hA [] rfl (by decide) (fun H locs hP hD hS => ?_)
  have hP : va_P D vwCl [] H := hP
  have hD : va_D A [] := hD
  refine lv_ishr hx hb dJ0_length_8abf5_9 ?_
  rw [kshr0 hlen]
  exact kr_i hx hb hr hlocks hP hD hS dJ0_length_8abf5_10
set_option maxHeartbeats 4000000 in
set_option maxRecDepth 100000 in
theorem c_J3_checkIndex_8e157 {l : Launch} {D : va_G} {cy : Nat → ClassId} (sz : Nat) (p0 p1 : Int32) (o : Option Nat) (h0 : ¬ p0 < 0) (h1 : p0 < p1) : Met l yJ3_checkIndex_8e157 wsJ3_checkIndex_8e157 ({ frames := 0, cells := 0, slots := 0, locals := 0 } : Room) (kP (EN D cy) D [.int p0, .int p1, va_rf o] [] sz) (kQi D p0 [] (va_A [] sz)) 0 0 (va_A [] sz) := by
  refine kMet (cc := cJ3_checkIndex_8e157) (maxL := 3) (ret := some .int) (own := RJ3) (Qc := fun A9 => kQi D p0 [] A9) (by decide) rfl rfl (by cases o <;> exact Nat.le_of_ble_eq_true rfl) ?_
  intro p e s m args below meth c A hx hb hr hts hown hml hlocks hname hE hP hD hA hsz ls hl
  have hl : lv_has ls 3 [(0, .int p0), (1, .int p1)] := lv_sub (l' := [(0, .int p0), (1, .int p1)]) hl [0, 1] (by cases o <;> rfl)
  have hS : va_S A s.heap s.heap [] := va_S.rf
  refine lv_iload_n hx hb dJ3_checkIndex_8e157_0 rfl (lv_at hl 0 rfl) ?_
  refine lv_if_lt (tgt := 9) hx hb dJ3_checkIndex_8e157_1 (by decide) (fun h => absurd h h0) (fun _ => ?_)
  refine lv_iload_n hx hb dJ3_checkIndex_8e157_4 rfl (lv_at hl 0 rfl) ?_
  refine lv_iload_n hx hb dJ3_checkIndex_8e157_5 rfl (lv_at hl 1 rfl) ?_
  refine lv_icmp_lt (tgt := 16) hx hb dJ3_checkIndex_8e157_6 (by decide) (fun _ => ?_) (fun h => absurd h1 h)
  refine lv_iload_n hx hb dJ3_checkIndex_8e157_16 rfl (lv_at hl 0 rfl) ?_
  exact kr_i hx hb hr hlocks hP hD hS dJ3_checkIndex_8e157_17
set_option maxHeartbeats 4000000 in
set_option maxRecDepth 100000 in
theorem c_J0_checkIndex_df160 {l : Launch} {D : va_G} {cy : Nat → ClassId} (sz : Nat) (p0 p1 : Int32) (h0 : ¬ p0 < 0) (h1 : p0 < p1) : Met l yJ0_checkIndex_df160 wsJ0_checkIndex_df160 ({ frames := 1, cells := 0, slots := 0, locals := 22 } : Room) (kP (EN D cy) D [.int p0, .int p1] [] sz) (kQv D [] (va_A [] sz)) 0 0 (va_A [] sz) := by
  refine kMet (cc := cJ0_checkIndex_df160) (maxL := 2) (ret := none) (own := RJ0) (Qc := fun A9 => kQv D [] A9) (by decide) rfl rfl (Nat.le_of_ble_eq_true rfl) ?_
  intro p e s m args below meth c A hx hb hr hts hown hml hlocks hname hE hP hD hA hsz ls hl
  have hl : lv_has ls 2 [(0, .int p0), (1, .int p1)] := hl
  have hS : va_S A s.heap s.heap [] := va_S.rf
  have hgo : ∀ o : Option Nat, W p l e ({ frames := 1, cells := 0, slots := 0, locals := 22 } : Room) s m args below meth c s.heap [] 0 0 (MQ below (kQv D [] A) args s 0 0 A) (F0 m 5 ls [va_rf o, .int p1, .int p0]) := by
    intro o
    refine kc_i0 (va_runS (As := [.int p0, .int p1, va_rf o]) (rest := []) ⟨hx, hb, hml, hown, hts⟩ (c_J3_checkIndex_8e157 s.heap.size p0 p1 o h0 h1) (va_cwS 3 hts gJ0_checkIndex_df160_J3_checkIndex_8e157 rfl rfl rfl kd_J3_checkIndex_8e157 ⟨Nat.le_of_ble_eq_true rfl, Nat.le_of_ble_eq_true rfl⟩) ⟨kP_blind (EN_ok D cy) D _ _ _, kStart (EN_ok D cy) hE hP hD hS hA [] rfl rfl _⟩ rfl rfl hl.1 rfl (lv_room (Nat.le_of_ble_eq_true rfl)) dJ0_checkIndex_df160_5 ⟨Nat.zero_le _, Nat.zero_le _⟩) hP hD hS hA [] rfl (by decide) (fun H locs hP hD hS => ?_)
    have hP : va_P D vwCl [] H := hP
    have hD : va_D A [] := hD
    refine lv_pop hx hb dJ0_checkIndex_df160_8 rfl ?_
    exact kr_v hx hb hr hlocks hP hD hS dJ0_checkIndex_df160_9
  refine lv_iload_n hx hb dJ0_checkIndex_df160_0 rfl (lv_at hl 0 rfl) ?_
  refine lv_iload_n hx hb dJ0_checkIndex_df160_1 rfl (lv_at hl 1 rfl) ?_
  rcases hE.2.2.2.2.2.2.2.2.1 with hZ | ⟨t, hZ⟩
  · exact va_gets (v := .null) hx hb hZ hS hown (hts (.fieldLink RJ0 1053 "jdk/internal/util/Preconditions" "SIOOBE_FORMATTER" "Ljava/util/function/BiFunction;") (by decide +kernel)) (fun _ h9 => h9) dJ0_checkIndex_df160_2 (hgo none)
  · exact va_gets (v := .ref t) hx hb hZ hS hown (hts (.fieldLink RJ0 1053 "jdk/internal/util/Preconditions" "SIOOBE_FORMATTER" "Ljava/util/function/BiFunction;") (by decide +kernel)) (fun _ h9 => h9) dJ0_checkIndex_df160_2 (hgo (some t))
def kCh (tx : List Int32) (p1 : Int32) : Int32 := ((tx.getD p1.toNatClampNeg 0 &&& 255).toUInt32 % 65536).toInt32
set_option maxHeartbeats 4000000 in
set_option maxRecDepth 100000 in
theorem c_J1_charAt_3b067 {l : Launch} {D : va_G} {cy : Nat → ClassId} (sz : Nat) (tx : List Int32) (v : Nat) (p1 : Int32) (hlen : tx.length < 2147483648) (h0 : ¬ p1 < 0) (h1 : p1 < nI tx.length) : Met l yJ1_charAt_3b067 wsJ1_charAt_3b067 ({ frames := 2, cells := 0, slots := 0, locals := 50 } : Room) (kP (EB D cy tx v) D [.ref v, .int p1] [] sz) (kQi D (kCh tx p1) [] (va_A [] sz)) 0 0 (va_A [] sz) := by
  refine kMet (cc := cJ1_charAt_3b067) (maxL := 2) (ret := some .char) (own := RJ1) (Qc := fun A9 => kQi D (kCh tx p1) [] A9) (by decide) rfl rfl (Nat.le_of_ble_eq_true rfl) ?_
  intro p e s m args below meth c A hx hb hr hts hown hml hlocks hname hE hP hD hA hsz ls hl
  obtain ⟨hE, hT⟩ := hE
  have hl : lv_has ls 2 [(0, .ref v), (1, .int p1)] := hl
  have hS : va_S A s.heap s.heap [] := va_S.rf
  have hin : vp_in p1 tx.length := by
    obtain ⟨j, hj, rfl⟩ := nI_of h0
    exact vp_in_nI ((nI_ltI hj (by omega)).mp h1) (by omega)
  refine lv_iload_n hx hb dJ1_charAt_3b067_0 rfl (lv_at hl 1 rfl) ?_
  refine lv_aload_n hx hb dJ1_charAt_3b067_1 rfl (lv_at hl 0 rfl) ?_
  refine va_tlen (v := nI tx.length) hx hb hT hS rfl dJ1_charAt_3b067_2 ?_
  refine kc_v0 (va_runS (As := [.int p1, .int (nI tx.length)]) (rest := []) ⟨hx, hb, hml, hown, hts⟩ (c_J0_checkIndex_df160 s.heap.size p1 (nI tx.length) h0 h1) (va_cwS 2 hts gJ1_charAt_3b067_J0_checkIndex_df160 rfl rfl rfl kd_J0_checkIndex_df160 ⟨Nat.le_of_ble_eq_true rfl, Nat.le_of_ble_eq_true rfl⟩) ⟨kP_blind (EN_ok D cy) D _ _ _, kStart (EN_ok D cy) hE hP hD hS hA [] rfl rfl _⟩ rfl rfl hl.1 rfl (lv_room (Nat.le_of_ble_eq_true rfl)) dJ1_charAt_3b067_3 ⟨Nat.zero_le _, Nat.zero_le _⟩) hP hD hS hA [] rfl (by decide) (fun H locs hP hD hS => ?_)
  have hP : va_P D vwCl [] H := hP
  have hD : va_D A [] := hD
  refine lv_aload_n hx hb dJ1_charAt_3b067_6 rfl (lv_at hl 0 rfl) ?_
  refine lv_iload_n hx hb dJ1_charAt_3b067_7 rfl (lv_at hl 1 rfl) ?_
  refine va_tb (v := .int (tx.getD p1.toNatClampNeg 0)) hx hb hT hS hin rfl dJ1_charAt_3b067_8 ?_
  refine lv_sipush (v := 255) hx hb dJ1_charAt_3b067_9 (by decide) ?_
  refine lv_iand hx hb dJ1_charAt_3b067_12 ?_
  refine lv_i2c hx hb dJ1_charAt_3b067_13 rfl ?_
  exact kr_z hx hb hr hlocks (pk_nc _) hP hD hS dJ1_charAt_3b067_14
/-- charAt(k) -/
def J0_charAt_5068e (tx : List Int32) (p1 : Int32) : Option Int32 := ck (tx.length < 2147483648 ∧ ¬ p1 < 0 ∧ p1 < nI tx.length) (some (kCh tx p1))
set_option maxHeartbeats 4000000 in
set_option maxRecDepth 100000 in
theorem c_J0_charAt_5068e {l : Launch} {D : va_G} {cy : Nat → ClassId} (sz : Nat) (tx : List Int32) (a_tx : Nat) (p1 : Int32) (res : Int32) (hF : J0_charAt_5068e tx p1 = some res) : Met l yJ0_charAt_5068e wsJ0_charAt_5068e ({ frames := 3, cells := 0, slots := 0, locals := 80 } : Room) (kP (ES D cy tx a_tx) D [.ref a_tx, .int p1] [] sz) (kQi D res [] (va_A [] sz)) 0 0 (va_A [] sz) := by
  refine kMet (cc := cJ0_charAt_5068e) (maxL := 2) (ret := some .char) (own := RJ0) (Qc := fun A9 => kQi D res [] A9) (by decide) rfl rfl (Nat.le_of_ble_eq_true rfl) ?_
  intro p e s m args below meth c A hx hb hr hts hown hml hlocks hname hE hP hD hA hsz ls hl
  obtain ⟨hE, hT⟩ := hE
  obtain ⟨⟨hlen, h0, h1⟩, hF⟩ := ck_o hF
  obtain rfl := so_o hF
  have hl : lv_has ls 2 [(0, .ref a_tx), (1, .int p1)] := hl
  have hS : va_S A s.heap s.heap [] := va_S.rf
  obtain ⟨v, hv1, hv2⟩ := hT.2.2
  refine lv_aload_n hx hb dJ0_charAt_5068e_0 rfl (lv_at hl 0 rfl) ?_
  refine kc_i0 (va_runV (As := []) (rest := []) ⟨hx, hb, hml, hown, hts⟩ (c_J0_isLatin1_aae02 s.heap.size tx a_tx) (cwV 0 hts gJ0_charAt_5068e_J0_isLatin1_aae02 rfl rfl rfl kd_J0_isLatin1_aae02 ⟨Nat.le_of_ble_eq_true rfl, Nat.le_of_ble_eq_true rfl⟩) ⟨kP_blind (ES_ok D cy tx a_tx) D _ _ _, kStr_recv hT hS, kStart (ES_ok D cy tx a_tx) (show ES D cy tx a_tx A s s.heap from ⟨hE, hT⟩) hP hD hS hA [] rfl rfl _⟩ rfl rfl hl.1 rfl (lv_room (Nat.le_of_ble_eq_true rfl)) dJ0_charAt_5068e_1 ⟨Nat.zero_le _, Nat.zero_le _⟩) hP hD hS hA [] rfl (by decide) (fun H locs hP hD hS => ?_)
  have hP : va_P D vwCl [] H := hP
  have hD : va_D A [] := hD
  refine lv_if_eq (tgt := 16) hx hb dJ0_charAt_5068e_4 (by decide) (fun h => absurd h (by decide)) (fun _ => ?_)
  refine lv_aload_n hx hb dJ0_charAt_5068e_7 rfl (lv_at hl 0 rfl) ?_
  refine vk_getf hx hb hv1 hS hown (hts (.fieldLink RJ0 9 "java/lang/String" "value" "[B") (by decide +kernel)) (fun _ h9 => h9) dJ0_charAt_5068e_8 ?_
  refine lv_iload_n hx hb dJ0_charAt_5068e_11 rfl (lv_at hl 1 rfl) ?_
  refine kc_i0 (va_runS (As := [.ref v, .int p1]) (rest := []) ⟨hx, hb, hml, hown, hts⟩ (c_J1_charAt_3b067 H.size tx v p1 hlen h0 h1) (va_cwS 2 hts gJ0_charAt_5068e_J1_charAt_3b067 rfl rfl rfl kd_J1_charAt_3b067 ⟨Nat.le_of_ble_eq_true rfl, Nat.le_of_ble_eq_true rfl⟩) ⟨kP_blind (EB_ok D cy tx v) D _ _ _, kStart (EB_ok D cy tx v) (show EB D cy tx v A s s.heap from ⟨hE, hv2⟩) hP hD hS hA [] rfl rfl _⟩ rfl rfl hl.1 rfl (lv_room (Nat.le_of_ble_eq_true rfl)) dJ0_charAt_5068e_12 ⟨Nat.zero_le _, Nat.zero_le _⟩) hP hD hS hA [] rfl (by decide) (fun H locs hP hD hS => ?_)
  have hP : va_P D vwCl [] H := hP
  have hD : va_D A [] := hD
  exact kr_z hx hb hr hlocks (pk_nc _) hP hD hS dJ0_charAt_5068e_15
