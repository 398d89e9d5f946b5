/-! StringBuilder.append(int) (dg.py) -/
/-- the digits of a number below 10000 -/
def dcn (w : Nat) : Nat := if w < 10 then 1 else if w < 100 then 2 else if w < 1000 then 3 else 4
def dcs (w : Nat) : List Int32 := if w < 10 then [nI (48 + w)] else if w < 100 then [nI (48 + w / 10), nI (48 + w % 10)] else if w < 1000 then [nI (48 + w / 100), nI (48 + w / 10 % 10), nI (48 + w % 10)] else [nI (48 + w / 1000), nI (48 + w / 100 % 10), nI (48 + w / 10 % 10), nI (48 + w % 10)]
theorem dcs_len (w : Nat) : (dcs w).length = dcn w := by
  unfold dcs dcn
  split
  · rfl
  · split
    · rfl
    · split <;> rfl
theorem dcn_le (w : Nat) : 1 ≤ dcn w ∧ dcn w ≤ 4 := by unfold dcn; split <;> (try split) <;> (try split) <;> decide
theorem asc_d {k : Nat} (h : k < 80) : asc (nI (48 + k)) := ⟨nI_pos' (by omega), nI_lt (a := 48 + k) (b := 128) (by omega) (by decide)⟩
theorem dcs_asc {w : Nat} (hw : w < 10000) : ascS (dcs w) := by
  intro x hx
  unfold dcs at hx
  split at hx
  · rw [List.mem_singleton] at hx; rw [hx]; exact asc_d (by omega)
  · split at hx
    · simp only [List.mem_cons, List.not_mem_nil, or_false] at hx
      rcases hx with rfl | rfl <;> exact asc_d (by omega)
    · split at hx
      · simp only [List.mem_cons, List.not_mem_nil, or_false] at hx
        rcases hx with rfl | rfl | rfl <;> exact asc_d (by omega)
      · simp only [List.mem_cons, List.not_mem_nil, or_false] at hx
        rcases hx with rfl | rfl | rfl | rfl <;> exact asc_d (by omega)
/-- Integer's two static rows -/
def kDig (A : Nat → Prop) (U : State) (H : Heap) : Prop := (∃ t : Nat, va_Z "java/lang/Integer" "DigitOnes" "[B" (.ref t) A U H ∧ va_T .byte t 100 (fun j => .int (nI (48 + j % 10))) A U H) ∧ ∃ t : Nat, va_Z "java/lang/Integer" "DigitTens" "[B" (.ref t) A U H ∧ va_T .byte t 100 (fun j => .int (nI (48 + j / 10))) A U H
theorem kDig.go {A B : Nat → Prop} {s U : State} {H0 H : Heap} (h : kDig A s H0) (hq : ∀ a : Nat, a < H0.size → ¬ A a → H[a]? = H0[a]?) (hAB : ∀ q, B q → A q) (hW : s.vm.Alike U.vm) : kDig B U H := by
  obtain ⟨⟨t, h1, h2⟩, u, h3, h4⟩ := h
  exact ⟨⟨t, ((va_Z.moved hW h1).kept hq).narrow hAB, ((va_T.moved hW h2).kept hq).narrow hAB⟩, u, ((va_Z.moved hW h3).kept hq).narrow hAB, ((va_T.moved hW h4).kept hq).narrow hAB⟩
def ED (D : va_G) (cy : Nat → ClassId) (A : Nat → Prop) (U : State) (H : Heap) : Prop := EN D cy A U H ∧ kDig A U H
theorem ED_ok (D : va_G) (cy : Nat → ClassId) : EOK (ED D cy) := fun A B s U H0 H h hq hAB hW => ⟨EN_ok D cy A B s U H0 H h.1 hq hAB hW, h.2.go hq hAB hW.alike⟩
/-- what the last two digits leave -/
def dcT (w n0 p : Nat) (f g : Nat → Int32) : Prop := (sb_Fit f → sb_Fit g) ∧ (∀ j, j < n0 ∨ p ≤ j → g j = f j) ∧ (w < 10 → g n0 = nI (48 + w)) ∧ (10 ≤ w → g n0 = nI (48 + w / 10) ∧ g (n0 + 1) = nI (48 + w % 10))
theorem dcT1 {w n0 : Nat} {f : Nat → Int32} (h : w < 10) : dcT w n0 (n0 + 1) f (upd f n0 (nI (48 + w))) := by
  refine ⟨fun hf => sb_fitU hf (asc_fit (asc_d (by omega))), fun j hj => pk_un (by omega), fun _ => pk_us, fun h1 => absurd h1 (by omega)⟩
theorem dcT2 {w n0 : Nat} {f : Nat → Int32} (h : 10 ≤ w) (h2 : w < 100) : dcT w n0 (n0 + 2) f (upd (upd f (n0 + 1) (nI (48 + w % 10))) n0 (nI (48 + w / 10))) := by
  refine ⟨fun hf => sb_fitU (sb_fitU hf (asc_fit (asc_d (by omega)))) (asc_fit (asc_d (by omega))), fun j hj => by rw [pk_un (by omega), pk_un (by omega)], fun h1 => absurd h1 (by omega), fun _ => ⟨pk_us, by rw [pk_un (by omega), pk_us]⟩⟩
/-- what getChars leaves -/
def dcQ (w n0 m : Nat) (f g : Nat → Int32) : Prop := sb_Fit g ∧ (∀ j, j < n0 → g j = f j) ∧ ∀ i, i < (dcs w).length → g (n0 + i) = (dcs w).getD i 0
theorem dcQ1 {w n0 m : Nat} {f g : Nat → Int32} (hf : sb_Fit f) (h100 : w < 100) (h : dcT w n0 (n0 + dcn w) f g) : dcQ w n0 m f g := by
  refine ⟨h.1 hf, fun j hj => h.2.1 j (Or.inl hj), fun i hi => ?_⟩
  by_cases c : w < 10
  · have e : dcs w = [nI (48 + w)] := if_pos c
    rw [e] at hi ⊢
    obtain rfl : i = 0 := by simpa using hi
    exact h.2.2.1 c
  · have e : dcs w = [nI (48 + w / 10), nI (48 + w % 10)] := by unfold dcs; rw [if_neg c, if_pos h100]
    rw [e] at hi ⊢
    have h2 := h.2.2.2 (by omega)
    match i, hi with
    | 0, _ => exact h2.1
    | 1, _ => exact h2.2
    | i + 2, hi => exact absurd hi (by simp)
theorem dcQ2 {w n0 m : Nat} {f g : Nat → Int32} (hf : sb_Fit f) (h100 : ¬ w < 100) (hw : w < 10000) (h : dcT (w / 100) n0 (n0 + dcn (w / 100)) (upd (upd f (n0 + dcn w - 1) (nI (48 + w % 10))) (n0 + dcn w - 2) (nI (48 + w / 10 % 10))) g) : dcQ w n0 m f g := by
  have hn : dcn w = dcn (w / 100) + 2 := by
    unfold dcn
    rw [if_neg (show ¬ w < 10 by omega), if_neg h100]
    by_cases c : w < 1000
    · rw [if_pos c, if_pos (show w / 100 < 10 by omega)]
    · rw [if_neg c, if_neg (show ¬ w / 100 < 10 by omega), if_pos (show w / 100 < 100 by omega)]
  have hd := dcn_le (w / 100)
  refine ⟨h.1 (sb_fitU (sb_fitU hf (asc_fit (asc_d (by omega)))) (asc_fit (asc_d (by omega)))), fun j hj => by rw [h.2.1 j (Or.inl hj), pk_un (by omega), pk_un (by omega)], fun i hi => ?_⟩
  have t1 : g (n0 + dcn (w / 100)) = nI (48 + w / 10 % 10) := by
    rw [h.2.1 _ (Or.inr (Nat.le_refl _)), show n0 + dcn w - 2 = n0 + dcn (w / 100) by omega, pk_us]
  have t2 : g (n0 + dcn (w / 100) + 1) = nI (48 + w % 10) := by
    rw [h.2.1 _ (Or.inr (by omega)), pk_un (by omega), show n0 + dcn w - 1 = n0 + dcn (w / 100) + 1 by omega, pk_us]
  by_cases c : w < 1000
  · have e : dcs w = [nI (48 + w / 100), nI (48 + w / 10 % 10), nI (48 + w % 10)] := by unfold dcs; rw [if_neg (by omega), if_neg h100, if_pos c]
    have en : dcn (w / 100) = 1 := if_pos (by omega)
    rw [en] at t1 t2
    rw [e] at hi ⊢
    match i, hi with
    | 0, _ => exact h.2.2.1 (by omega)
    | 1, _ => exact t1
    | 2, _ => exact t2
    | i + 3, hi => exact absurd hi (by simp)
  · have e : dcs w = [nI (48 + w / 1000), nI (48 + w / 100 % 10), nI (48 + w / 10 % 10), nI (48 + w % 10)] := by unfold dcs; rw [if_neg (by omega), if_neg h100, if_neg c]
    have en : dcn (w / 100) = 2 := by unfold dcn; rw [if_neg (by omega), if_pos (by omega)]
    rw [en] at t1 t2
    have h2 := h.2.2.2 (by omega)
    rw [show w / 100 / 10 = w / 1000 by omega] at h2
    rw [e] at hi ⊢
    match i, hi with
    | 0, _ => exact h2.1
    | 1, _ => exact h2.2
    | 2, _ => exact t1
    | 3, _ => exact t2
    | i + 4, hi => exact absurd hi (by simp)
theorem dcn_div {w : Nat} (h : 100 ≤ w) (hw : w < 10000) : dcn w = dcn (w / 100) + 2 := by
  unfold dcn
  rw [if_neg (show ¬ w < 10 by omega), if_neg (show ¬ w < 100 by omega)]
  by_cases c : w < 1000
  · rw [if_pos c, if_pos (show w / 100 < 10 by omega)]
  · rw [if_neg c, if_neg (show ¬ w / 100 < 10 by omega), if_pos (show w / 100 < 100 by omega)]
theorem kd_J6_stringSize_0f7a4 : yJ6_stringSize_0f7a4.cls ≠ "java/lang/invoke/MethodHandle" ∧ yJ6_stringSize_0f7a4.cls ≠ "java/lang/invoke/VarHandle" ∧ (parseMethodDescriptor yJ6_stringSize_0f7a4.desc).map (fun d => d.parameters.length) = some 1 := by decide +kernel
set_option maxHeartbeats 4000000 in
set_option maxRecDepth 100000 in
theorem c_J6_stringSize_0f7a4 {l : Launch} {D : va_G} {cy : Nat → ClassId} (w sz : Nat) (hw : w < 10000) : Met l yJ6_stringSize_0f7a4 wsJ6_stringSize_0f7a4 ({ frames := 0, cells := 0, slots := 0, locals := 0 } : Room) (kP (EN D cy) D [.int (nI w)] (([] : va_W)) sz) (kQi D (nI (dcn w)) ([] : va_W) (va_A (([] : va_W)) sz)) 0 0 (va_A (([] : va_W)) sz) := by
  refine kMet (y := yJ6_stringSize_0f7a4) (av := [.int (nI w)]) (cc := cJ6_stringSize_0f7a4) (maxL := 4) (ret := some .int) (own := RJ6) (Qc := fun A9 => (kQi D (nI (dcn w)) ([] : va_W) A9)) (by decide) rfl rfl (Nat.le_of_ble_eq_true rfl) ?_
  intro p e s m args below meth c A hx hb hr hts hown hml hlocks hname hE hP hD hA hsz ls hl
  have hK := hE.1
  have hl : lv_has ls 4 [(0, .int (nI w))] := hl
  have hS : va_S A s.heap s.heap [] := va_S.rf
  obtain ⟨QQ, hQQ⟩ : ∃ Q9, Q9 = MQ below (kQi D (nI (dcn w)) ([] : va_W) A) args s 0 0 A := ⟨_, rfl⟩
  rw [← hQQ]
  obtain ⟨H, hH⟩ : ∃ H9, H9 = s.heap := ⟨_, rfl⟩
  have hP : va_P D vwCl (([] : va_W)) H := by rw [hH]; exact hP
  have hS : va_S A s.heap H [] := by rw [hH]; exact hS
  rw [← hH]
  refine lv_iconst (v := 1) hx hb dJ6_stringSize_0f7a4_0 (by decide) ?_
  refine lv_istore_n (lv' := [(1, .int (1 : Int32)), (0, .int (nI w))]) hx hb dJ6_stringSize_0f7a4_1 rfl hl (by decide) rfl (fun ls hl => ?_)
  refine lv_iload_n hx hb dJ6_stringSize_0f7a4_2 rfl (lv_at hl 1 rfl) ?_
  refine lv_if_lt (tgt := 11) hx hb dJ6_stringSize_0f7a4_3 (by decide) (fun h1 => absurd h1 (nI_pos (by omega))) (fun _ => ?_)
  refine lv_iconst (v := 0) hx hb dJ6_stringSize_0f7a4_6 (by decide) ?_
  refine lv_istore_n (lv' := [(1, .int (0 : Int32)), (0, .int (nI w))]) hx hb dJ6_stringSize_0f7a4_7 rfl hl (by decide) rfl (fun ls hl => ?_)
  refine lv_iload_n hx hb dJ6_stringSize_0f7a4_8 rfl (lv_at hl 1 rfl) ?_
  refine lv_ineg hx hb dJ6_stringSize_0f7a4_9 ?_
  refine lv_istore_n (lv' := [(0, .int (-(nI w))), (1, .int (0 : Int32))]) hx hb dJ6_stringSize_0f7a4_10 rfl hl (by decide) rfl (fun ls hl => ?_)
  refine lv_bipush (v := -10) hx hb dJ6_stringSize_0f7a4_11 (by decide) ?_
  refine lv_istore_n (lv' := [(2, .int (-10 : Int32)), (0, .int (-(nI w))), (1, .int (0 : Int32))]) hx hb dJ6_stringSize_0f7a4_13 rfl hl (by decide) rfl (fun ls hl => ?_)
  refine lv_iconst (v := 1) hx hb dJ6_stringSize_0f7a4_14 (by decide) ?_
  refine lv_istore_n (lv' := [(3, .int (1 : Int32)), (2, .int (-10 : Int32)), (0, .int (-(nI w))), (1, .int (0 : Int32))]) hx hb dJ6_stringSize_0f7a4_15 rfl hl (by decide) rfl (fun ls hl => ?_)
  refine lv_iload_n hx hb dJ6_stringSize_0f7a4_16 rfl (lv_at hl 0 rfl) ?_
  refine lv_bipush (v := 10) hx hb dJ6_stringSize_0f7a4_17 (by decide) ?_
  refine lv_icmp_ge (tgt := 42) hx hb dJ6_stringSize_0f7a4_19 (by decide) (fun h2 => absurd h2 ((by decide))) (fun _ => ?_)
  refine lv_iload_n hx hb dJ6_stringSize_0f7a4_22 rfl (lv_at hl 2 rfl) ?_
  refine lv_iload_n hx hb dJ6_stringSize_0f7a4_23 rfl (lv_at hl 1 rfl) ?_
  by_cases c1 : w < 10
  · skip
    refine lv_icmp_le (tgt := 31) hx hb dJ6_stringSize_0f7a4_24 (by decide) (fun h3 => absurd h3 (fun z => absurd ((sb_nle (b := 10) (by omega) (by decide)).mp (show -nI w ≤ -nI 10 from z)) (by omega))) (fun _ => ?_)
    refine lv_iload_n hx hb dJ6_stringSize_0f7a4_27 rfl (lv_at hl 0 rfl) ?_
    refine lv_iload_n hx hb dJ6_stringSize_0f7a4_28 rfl (lv_at hl 3 rfl) ?_
    refine lv_iadd hx hb dJ6_stringSize_0f7a4_29 ?_
    rw [hQQ, show dcn w = 1 from by unfold dcn; rw [if_pos c1]]
    exact kr_i hx hb hr hlocks hP hD hS dJ6_stringSize_0f7a4_30
  · skip
    refine lv_icmp_le (tgt := 31) hx hb dJ6_stringSize_0f7a4_24 (by decide) (fun _ => ?_) (fun h3 => absurd ((sb_nle (b := 10) (by omega) (by decide)).mpr (by omega)) h3)
    refine lv_bipush (v := 10) hx hb dJ6_stringSize_0f7a4_31 (by decide) ?_
    refine lv_iload_n hx hb dJ6_stringSize_0f7a4_33 rfl (lv_at hl 1 rfl) ?_
    refine lv_imul hx hb dJ6_stringSize_0f7a4_34 ?_
    rw [show ((10 : Int32) * (-10 : Int32)) = (-100 : Int32) from (by decide)]
    refine lv_istore_n (lv' := [(2, .int (-100 : Int32)), (3, .int (1 : Int32)), (0, .int (-(nI w))), (1, .int (0 : Int32))]) hx hb dJ6_stringSize_0f7a4_35 rfl hl (by decide) rfl (fun ls hl => ?_)
    refine lv_iinc (v := (2 : Int32)) (lv' := [(3, .int (2 : Int32)), (2, .int (-100 : Int32)), (0, .int (-(nI w))), (1, .int (0 : Int32))]) hx hb dJ6_stringSize_0f7a4_36 hl (k := 1) rfl (by decide) (by decide) rfl (fun ls hl => ?_)
    refine lv_goto (tgt := 16) hx hb dJ6_stringSize_0f7a4_39 (by decide) ?_
    refine lv_iload_n hx hb dJ6_stringSize_0f7a4_16 rfl (lv_at hl 0 rfl) ?_
    refine lv_bipush (v := 10) hx hb dJ6_stringSize_0f7a4_17 (by decide) ?_
    refine lv_icmp_ge (tgt := 42) hx hb dJ6_stringSize_0f7a4_19 (by decide) (fun h4 => absurd h4 ((by decide))) (fun _ => ?_)
    refine lv_iload_n hx hb dJ6_stringSize_0f7a4_22 rfl (lv_at hl 2 rfl) ?_
    refine lv_iload_n hx hb dJ6_stringSize_0f7a4_23 rfl (lv_at hl 1 rfl) ?_
    by_cases c2 : w < 100
    · skip
      refine lv_icmp_le (tgt := 31) hx hb dJ6_stringSize_0f7a4_24 (by decide) (fun h5 => absurd h5 (fun z => absurd ((sb_nle (b := 100) (by omega) (by decide)).mp (show -nI w ≤ -nI 100 from z)) (by omega))) (fun _ => ?_)
      refine lv_iload_n hx hb dJ6_stringSize_0f7a4_27 rfl (lv_at hl 0 rfl) ?_
      refine lv_iload_n hx hb dJ6_stringSize_0f7a4_28 rfl (lv_at hl 3 rfl) ?_
      refine lv_iadd hx hb dJ6_stringSize_0f7a4_29 ?_
      rw [hQQ, show dcn w = 2 from by unfold dcn; rw [if_neg c1, if_pos c2]]
      exact kr_i hx hb hr hlocks hP hD hS dJ6_stringSize_0f7a4_30
    · skip
      refine lv_icmp_le (tgt := 31) hx hb dJ6_stringSize_0f7a4_24 (by decide) (fun _ => ?_) (fun h5 => absurd ((sb_nle (b := 100) (by omega) (by decide)).mpr (by omega)) h5)
      refine lv_bipush (v := 10) hx hb dJ6_stringSize_0f7a4_31 (by decide) ?_
      refine lv_iload_n hx hb dJ6_stringSize_0f7a4_33 rfl (lv_at hl 1 rfl) ?_
      refine lv_imul hx hb dJ6_stringSize_0f7a4_34 ?_
      rw [show ((10 : Int32) * (-100 : Int32)) = (-1000 : Int32) from (by decide)]
      refine lv_istore_n (lv' := [(2, .int (-1000 : Int32)), (3, .int (2 : Int32)), (0, .int (-(nI w))), (1, .int (0 : Int32))]) hx hb dJ6_stringSize_0f7a4_35 rfl hl (by decide) rfl (fun ls hl => ?_)
      refine lv_iinc (v := (3 : Int32)) (lv' := [(3, .int (3 : Int32)), (2, .int (-1000 : Int32)), (0, .int (-(nI w))), (1, .int (0 : Int32))]) hx hb dJ6_stringSize_0f7a4_36 hl (k := 1) rfl (by decide) (by decide) rfl (fun ls hl => ?_)
      refine lv_goto (tgt := 16) hx hb dJ6_stringSize_0f7a4_39 (by decide) ?_
      refine lv_iload_n hx hb dJ6_stringSize_0f7a4_16 rfl (lv_at hl 0 rfl) ?_
      refine lv_bipush (v := 10) hx hb dJ6_stringSize_0f7a4_17 (by decide) ?_
      refine lv_icmp_ge (tgt := 42) hx hb dJ6_stringSize_0f7a4_19 (by decide) (fun h6 => absurd h6 ((by decide))) (fun _ => ?_)
      refine lv_iload_n hx hb dJ6_stringSize_0f7a4_22 rfl (lv_at hl 2 rfl) ?_
      refine lv_iload_n hx hb dJ6_stringSize_0f7a4_23 rfl (lv_at hl 1 rfl) ?_
      by_cases c3 : w < 1000
      · skip
        refine lv_icmp_le (tgt := 31) hx hb dJ6_stringSize_0f7a4_24 (by decide) (fun h7 => absurd h7 (fun z => absurd ((sb_nle (b := 1000) (by omega) (by decide)).mp (show -nI w ≤ -nI 1000 from z)) (by omega))) (fun _ => ?_)
        refine lv_iload_n hx hb dJ6_stringSize_0f7a4_27 rfl (lv_at hl 0 rfl) ?_
        refine lv_iload_n hx hb dJ6_stringSize_0f7a4_28 rfl (lv_at hl 3 rfl) ?_
        refine lv_iadd hx hb dJ6_stringSize_0f7a4_29 ?_
        rw [hQQ, show dcn w = 3 from by unfold dcn; rw [if_neg c1, if_neg c2, if_pos c3]]
        exact kr_i hx hb hr hlocks hP hD hS dJ6_stringSize_0f7a4_30
      · skip
        refine lv_icmp_le (tgt := 31) hx hb dJ6_stringSize_0f7a4_24 (by decide) (fun _ => ?_) (fun h7 => absurd ((sb_nle (b := 1000) (by omega) (by decide)).mpr (by omega)) h7)
        refine lv_bipush (v := 10) hx hb dJ6_stringSize_0f7a4_31 (by decide) ?_
        refine lv_iload_n hx hb dJ6_stringSize_0f7a4_33 rfl (lv_at hl 1 rfl) ?_
        refine lv_imul hx hb dJ6_stringSize_0f7a4_34 ?_
        rw [show ((10 : Int32) * (-1000 : Int32)) = (-10000 : Int32) from (by decide)]
        refine lv_istore_n (lv' := [(2, .int (-10000 : Int32)), (3, .int (3 : Int32)), (0, .int (-(nI w))), (1, .int (0 : Int32))]) hx hb dJ6_stringSize_0f7a4_35 rfl hl (by decide) rfl (fun ls hl => ?_)
        refine lv_iinc (v := (4 : Int32)) (lv' := [(3, .int (4 : Int32)), (2, .int (-10000 : Int32)), (0, .int (-(nI w))), (1, .int (0 : Int32))]) hx hb dJ6_stringSize_0f7a4_36 hl (k := 1) rfl (by decide) (by decide) rfl (fun ls hl => ?_)
        refine lv_goto (tgt := 16) hx hb dJ6_stringSize_0f7a4_39 (by decide) ?_
        refine lv_iload_n hx hb dJ6_stringSize_0f7a4_16 rfl (lv_at hl 0 rfl) ?_
        refine lv_bipush (v := 10) hx hb dJ6_stringSize_0f7a4_17 (by decide) ?_
        refine lv_icmp_ge (tgt := 42) hx hb dJ6_stringSize_0f7a4_19 (by decide) (fun h8 => absurd h8 ((by decide))) (fun _ => ?_)
        refine lv_iload_n hx hb dJ6_stringSize_0f7a4_22 rfl (lv_at hl 2 rfl) ?_
        refine lv_iload_n hx hb dJ6_stringSize_0f7a4_23 rfl (lv_at hl 1 rfl) ?_
        refine lv_icmp_le (tgt := 31) hx hb dJ6_stringSize_0f7a4_24 (by decide) (fun h9 => absurd h9 (fun z => absurd ((sb_nle (b := 10000) (by omega) (by decide)).mp (show -nI w ≤ -nI 10000 from z)) (by omega))) (fun _ => ?_)
        refine lv_iload_n hx hb dJ6_stringSize_0f7a4_27 rfl (lv_at hl 0 rfl) ?_
        refine lv_iload_n hx hb dJ6_stringSize_0f7a4_28 rfl (lv_at hl 3 rfl) ?_
        refine lv_iadd hx hb dJ6_stringSize_0f7a4_29 ?_
        rw [hQQ, show dcn w = 4 from by unfold dcn; rw [if_neg c1, if_neg c2, if_neg c3]]
        exact kr_i hx hb hr hlocks hP hD hS dJ6_stringSize_0f7a4_30
