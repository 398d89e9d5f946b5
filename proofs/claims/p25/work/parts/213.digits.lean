/-! StringBuilder.append(int) (dg.py) -/
/-- the digits of a number below 10000 -/
def dcn (w : Nat) : Nat := if w < 10 then 1 else if w < 100 then 2 else if w < 1000 then 3 else 4
def dcs (w : Nat) : List Int32 := if w < 10 then [nI (48 + w)] else if w < 100 then [nI (48 + w / 10), nI (48 + w % 10)] else if w < 1000 then [nI (48 + w / 100), nI (48 + w / 10 % 10), nI (48 + w % 10)] else [nI (48 + w / 1000), nI (48 + w / 100 % 10), nI (48 + w / 10 % 10), nI (48 + w % 10)]
theorem dcs_len (w : Nat) : (dcs w).length = dcn w := by
  unfold dcs dcn
  split
  · rfl
  · split
    · rfl
    · split <;> rfl
theorem dcn_le (w : Nat) : 1 ≤ dcn w ∧ dcn w ≤ 4 := by unfold dcn; split <;> (try split) <;> (try split) <;> decide
theorem asc_d {k : Nat} (h : k < 80) : asc (nI (48 + k)) := ⟨nI_pos' (by omega), nI_lt (a := 48 + k) (b := 128) (by omega) (by decide)⟩
theorem dcs_asc {w : Nat} (hw : w < 10000) : ascS (dcs w) := by
  intro x hx
  unfold dcs at hx
  split at hx
  · rw [List.mem_singleton] at hx; rw [hx]; exact asc_d (by omega)
  · split at hx
    · simp only [List.mem_cons, List.not_mem_nil, or_false] at hx
      rcases hx with rfl | rfl <;> exact asc_d (by omega)
    · split at hx
      · simp only [List.mem_cons, List.not_mem_nil, or_false] at hx
        rcases hx with rfl | rfl | rfl <;> exact asc_d (by omega)
      · simp only [List.mem_cons, List.not_mem_nil, or_false] at hx
        rcases hx with rfl | rfl | rfl | rfl <;> exact asc_d (by omega)
/-- Integer's two static rows -/
def kDig (A : Nat → Prop) (U : State) (H : Heap) : Prop := (∃ t : Nat, va_Z "java/lang/Integer" "DigitOnes" "[B" (.ref t) A U H ∧ va_T .byte t 100 (fun j => .int (nI (48 + j % 10))) A U H) ∧ ∃ t : Nat, va_Z "java/lang/Integer" "DigitTens" "[B" (.ref t) A U H ∧ va_T .byte t 100 (fun j => .int (nI (48 + j / 10))) A U H
theorem kDig.go {A B : Nat → Prop} {s U : State} {H0 H : Heap} (h : kDig A s H0) (hq : ∀ a : Nat, a < H0.size → ¬ A a → H[a]? = H0[a]?) (hAB : ∀ q, B q → A q) (hW : s.vm.Alike U.vm) : kDig B U H := by
  obtain ⟨⟨t, h1, h2⟩, u, h3, h4⟩ := h
  exact ⟨⟨t, ((va_Z.moved hW h1).kept hq).narrow hAB, ((va_T.moved hW h2).kept hq).narrow hAB⟩, u, ((va_Z.moved hW h3).kept hq).narrow hAB, ((va_T.moved hW h4).kept hq).narrow hAB⟩
def ED (D : va_G) (cy : Nat → ClassId) (A : Nat → Prop) (U : State) (H : Heap) : Prop := EN D cy A U H ∧ kDig A U H
theorem ED_ok (D : va_G) (cy : Nat → ClassId) : EOK (ED D cy) := fun A B s U H0 H h hq hAB hW => ⟨EN_ok D cy A B s U H0 H h.1 hq hAB hW, h.2.go hq hAB hW.alike⟩
/-- what the last two digits leave -/
def dcT (w n0 p : Nat) (f g : Nat → Int32) : Prop := (sb_Fit f → sb_Fit g) ∧ (∀ j, j < n0 ∨ p ≤ j → g j = f j) ∧ (w < 10 → g n0 = nI (48 + w)) ∧ (10 ≤ w → g n0 = nI (48 + w / 10) ∧ g (n0 + 1) = nI (48 + w % 10))
theorem dcT1 {w n0 : Nat} {f : Nat → Int32} (h : w < 10) : dcT w n0 (n0 + 1) f (upd f n0 (nI (48 + w))) := by
  refine ⟨fun hf => sb_fitU hf (asc_fit (asc_d (by omega))), fun j hj => pk_un (by omega), fun _ => pk_us, fun h1 => absurd h1 (by omega)⟩
theorem dcT2 {w n0 : Nat} {f : Nat → Int32} (h : 10 ≤ w) (h2 : w < 100) : dcT w n0 (n0 + 2) f (upd (upd f (n0 + 1) (nI (48 + w % 10))) n0 (nI (48 + w / 10))) := by
  refine ⟨fun hf => sb_fitU (sb_fitU hf (asc_fit (asc_d (by omega)))) (asc_fit (asc_d (by omega))), fun j hj => by rw [pk_un (by omega), pk_un (by omega)], fun h1 => absurd h1 (by omega), fun _ => ⟨pk_us, by rw [pk_un (by omega), pk_us]⟩⟩
/-- what getChars leaves -/
def dcQ (w n0 m : Nat) (f g : Nat → Int32) : Prop := sb_Fit g ∧ (∀ j, j < n0 → g j = f j) ∧ ∀ i, i < (dcs w).length → g (n0 + i) = (dcs w).getD i 0
theorem dcQ1 {w n0 m : Nat} {f g : Nat → Int32} (hf : sb_Fit f) (h100 : w < 100) (h : dcT w n0 (n0 + dcn w) f g) : dcQ w n0 m f g := by
  refine ⟨h.1 hf, fun j hj => h.2.1 j (Or.inl hj), fun i hi => ?_⟩
  by_cases c : w < 10
  · have e : dcs w = [nI (48 + w)] := if_pos c
    rw [e] at hi ⊢
    obtain rfl : i = 0 := by simpa using hi
    exact h.2.2.1 c
  · have e : dcs w = [nI (48 + w / 10), nI (48 + w % 10)] := by unfold dcs; rw [if_neg c, if_pos h100]
    rw [e] at hi ⊢
    have h2 := h.2.2.2 (by omega)
    match i, hi with
    | 0, _ => exact h2.1
    | 1, _ => exact h2.2
    | i + 2, hi => exact absurd hi (by simp)
theorem dcQ2 {w n0 m : Nat} {f g : Nat → Int32} (hf : sb_Fit f) (h100 : ¬ w < 100) (hw : w < 10000) (h : dcT (w / 100) n0 (n0 + dcn (w / 100)) (upd (upd f (n0 + dcn w - 1) (nI (48 + w % 10))) (n0 + dcn w - 2) (nI (48 + w / 10 % 10))) g) : dcQ w n0 m f g := by
  have hn : dcn w = dcn (w / 100) + 2 := by
    unfold dcn
    rw [if_neg (show ¬ w < 10 by omega), if_neg h100]
    by_cases c : w < 1000
    · rw [if_pos c, if_pos (show w / 100 < 10 by omega)]
    · rw [if_neg c, if_neg (show ¬ w / 100 < 10 by omega), if_pos (show w / 100 < 100 by omega)]
  have hd := dcn_le (w / 100)
  refine ⟨h.1 (sb_fitU (sb_fitU hf (asc_fit (asc_d (by omega)))) (asc_fit (asc_d (by omega)))), fun j hj => by rw [h.2.1 j (Or.inl hj), pk_un (by omega), pk_un (by omega)], fun i hi => ?_⟩
  have t1 : g (n0 + dcn (w / 100)) = nI (48 + w / 10 % 10) := by
    rw [h.2.1 _ (Or.inr (Nat.le_refl _)), show n0 + dcn w - 2 = n0 + dcn (w / 100) by omega, pk_us]
  have t2 : g (n0 + dcn (w / 100) + 1) = nI (48 + w % 10) := by
    rw [h.2.1 _ (Or.inr (by omega)), pk_un (by omega), show n0 + dcn w - 1 = n0 + dcn (w / 100) + 1 by omega, pk_us]
  by_cases c : w < 1000
  · have e : dcs w = [nI (48 + w / 100), nI (48 + w / 10 % 10), nI (48 + w % 10)] := by unfold dcs; rw [if_neg (by omega), if_neg h100, if_pos c]
    have en : dcn (w / 100) = 1 := if_pos (by omega)
    rw [en] at t1 t2
    rw [e] at hi ⊢
    match i, hi with
    | 0, _ => exact h.2.2.1 (by omega)
    | 1, _ => exact t1
    | 2, _ => exact t2
    | i + 3, hi => exact absurd hi (by simp)
  · have e : dcs w = [nI (48 + w / 1000), nI (48 + w / 100 % 10), nI (48 + w / 10 % 10), nI (48 + w % 10)] := by unfold dcs; rw [if_neg (by omega), if_neg h100, if_neg c]
    have en : dcn (w / 100) = 2 := by unfold dcn; rw [if_neg (by omega), if_pos (by omega)]
    rw [en] at t1 t2
    have h2 := h.2.2.2 (by omega)
    rw [show w / 100 / 10 = w / 1000 by omega] at h2
    rw [e] at hi ⊢
    match i, hi with
    | 0, _ => exact h2.1
    | 1, _ => exact h2.2
    | 2, _ => exact t1
    | 3, _ => exact t2
    | i + 4, hi => exact absurd hi (by simp)
theorem dcn_div {w : Nat} (h : 100 ≤ w) (hw : w < 10000) : dcn w = dcn (w / 100) + 2 := by
  unfold dcn
  rw [if_neg (show ¬ w < 10 by omega), if_neg (show ¬ w < 100 by omega)]
  by_cases c : w < 1000
  · rw [if_pos c, if_pos (show w / 100 < 10 by omega)]
  · rw [if_neg c, if_neg (show ¬ w / 100 < 10 by omega), if_pos (show w / 100 < 100 by omega)]
theorem kd_J6_stringSize_0f7a4 : yJ6_stringSize_0f7a4.cls ≠ "java/lang/invoke/MethodHandle" ∧ yJ6_stringSize_0f7a4.cls ≠ "java/lang/invoke/VarHandle" ∧ (parseMethodDescriptor yJ6_stringSize_0f7a4.desc).map (fun d => d.parameters.length) = some 1 := by decide +kernel
set_option maxHeartbeats 4000000 in
set_option maxRecDepth 100000 in
theorem c_J6_stringSize_0f7a4 {l : Launch} {D : va_G} {cy : Nat → ClassId} (w sz : Nat) (hw : w < 10000) : Met l yJ6_stringSize_0f7a4 wsJ6_stringSize_0f7a4 ({ frames := 0, cells := 0, slots := 0, locals := 0 } : Room) (kP (EN D cy) D [.int (nI w)] (([] : va_W)) sz) (kQi D (nI (dcn w)) ([] : va_W) (va_A (([] : va_W)) sz)) 0 0 (va_A (([] : va_W)) sz) := by
  refine kMet (y := yJ6_stringSize_0f7a4) (av := [.int (nI w)]) (cc := cJ6_stringSize_0f7a4) (maxL := 4) (ret := some .int) (own := RJ6) (Qc := fun A9 => (kQi D (nI (dcn w)) ([] : va_W) A9)) (by decide) rfl rfl (Nat.le_of_ble_eq_true rfl) ?_
  intro p e s m args below meth c A hx hb hr hts hown hml hlocks hname hE hP hD hA hsz ls hl
  have hK := hE.1
  have hl : lv_has ls 4 [(0, .int (nI w))] := hl
  have hS : va_S A s.heap s.heap [] := va_S.rf
  obtain ⟨QQ, hQQ⟩ : ∃ Q9, Q9 = MQ below (kQi D (nI (dcn w)) ([] : va_W) A) args s 0 0 A := ⟨_, rfl⟩
  rw [← hQQ]
  obtain ⟨H, hH⟩ : ∃ H9, H9 = s.heap := ⟨_, rfl⟩
  have hP : va_P D vwCl (([] : va_W)) H := by rw [hH]; exact hP
  have hS : va_S A s.heap H [] := by rw [hH]; exact hS
  rw [← hH]
  refine lv_iconst (v := 1) hx hb dJ6_stringSize_0f7a4_0 (by decide) ?_
  refine lv_istore_n (lv' := [(1, .int (1 : Int32)), (0, .int (nI w))]) hx hb dJ6_stringSize_0f7a4_1 rfl hl (by decide) rfl (fun ls hl => ?_)
  refine lv_iload_n hx hb dJ6_stringSize_0f7a4_2 rfl (lv_at hl 1 rfl) ?_
  refine lv_if_lt (tgt := 11) hx hb dJ6_stringSize_0f7a4_3 (by decide) (fun h1 => absurd h1 (nI_pos (by omega))) (fun _ => ?_)
  refine lv_iconst (v := 0) hx hb dJ6_stringSize_0f7a4_6 (by decide) ?_
  refine lv_istore_n (lv' := [(1, .int (0 : Int32)), (0, .int (nI w))]) hx hb dJ6_stringSize_0f7a4_7 rfl hl (by decide) rfl (fun ls hl => ?_)
  refine lv_iload_n hx hb dJ6_stringSize_0f7a4_8 rfl (lv_at hl 1 rfl) ?_
  refine lv_ineg hx hb dJ6_stringSize_0f7a4_9 ?_
  refine lv_istore_n (lv' := [(0, .int (-(nI w))), (1, .int (0 : Int32))]) hx hb dJ6_stringSize_0f7a4_10 rfl hl (by decide) rfl (fun ls hl => ?_)
  refine lv_bipush (v := -10) hx hb dJ6_stringSize_0f7a4_11 (by decide) ?_
  refine lv_istore_n (lv' := [(2, .int (-10 : Int32)), (0, .int (-(nI w))), (1, .int (0 : Int32))]) hx hb dJ6_stringSize_0f7a4_13 rfl hl (by decide) rfl (fun ls hl => ?_)
  refine lv_iconst (v := 1) hx hb dJ6_stringSize_0f7a4_14 (by decide) ?_
  refine lv_istore_n (lv' := [(3, .int (1 : Int32)), (2, .int (-10 : Int32)), (0, .int (-(nI w))), (1, .int (0 : Int32))]) hx hb dJ6_stringSize_0f7a4_15 rfl hl (by decide) rfl (fun ls hl => ?_)
  refine lv_iload_n hx hb dJ6_stringSize_0f7a4_16 rfl (lv_at hl 0 rfl) ?_
  refine lv_bipush (v := 10) hx hb dJ6_stringSize_0f7a4_17 (by decide) ?_
  refine lv_icmp_ge (tgt := 42) hx hb dJ6_stringSize_0f7a4_19 (by decide) (fun h2 => absurd h2 ((by decide))) (fun _ => ?_)
  refine lv_iload_n hx hb dJ6_stringSize_0f7a4_22 rfl (lv_at hl 2 rfl) ?_
  refine lv_iload_n hx hb dJ6_stringSize_0f7a4_23 rfl (lv_at hl 1 rfl) ?_
  by_cases c1 : w < 10
  · skip
    refine lv_icmp_le (tgt := 31) hx hb dJ6_stringSize_0f7a4_24 (by decide) (fun h3 => absurd h3 (fun z => absurd ((sb_nle (b := 10) (by omega) (by decide)).mp (show -nI w ≤ -nI 10 from z)) (by omega))) (fun _ => ?_)
    refine lv_iload_n hx hb dJ6_stringSize_0f7a4_27 rfl (lv_at hl 0 rfl) ?_
    refine lv_iload_n hx hb dJ6_stringSize_0f7a4_28 rfl (lv_at hl 3 rfl) ?_
    refine lv_iadd hx hb dJ6_stringSize_0f7a4_29 ?_
    rw [hQQ, show dcn w = 1 from by unfold dcn; rw [if_pos c1]]
    exact kr_i hx hb hr hlocks hP hD hS dJ6_stringSize_0f7a4_30
  · skip
    refine lv_icmp_le (tgt := 31) hx hb dJ6_stringSize_0f7a4_24 (by decide) (fun _ => ?_) (fun h3 => absurd ((sb_nle (b := 10) (by omega) (by decide)).mpr (by omega)) h3)
    refine lv_bipush (v := 10) hx hb dJ6_stringSize_0f7a4_31 (by decide) ?_
    refine lv_iload_n hx hb dJ6_stringSize_0f7a4_33 rfl (lv_at hl 1 rfl) ?_
    refine lv_imul hx hb dJ6_stringSize_0f7a4_34 ?_
    rw [show ((10 : Int32) * (-10 : Int32)) = (-100 : Int32) from (by decide)]
    refine lv_istore_n (lv' := [(2, .int (-100 : Int32)), (3, .int (1 : Int32)), (0, .int (-(nI w))), (1, .int (0 : Int32))]) hx hb dJ6_stringSize_0f7a4_35 rfl hl (by decide) rfl (fun ls hl => ?_)
    refine lv_iinc (v := (2 : Int32)) (lv' := [(3, .int (2 : Int32)), (2, .int (-100 : Int32)), (0, .int (-(nI w))), (1, .int (0 : Int32))]) hx hb dJ6_stringSize_0f7a4_36 hl (k := 1) rfl (by decide) (by decide) rfl (fun ls hl => ?_)
    refine lv_goto (tgt := 16) hx hb dJ6_stringSize_0f7a4_39 (by decide) ?_
    refine lv_iload_n hx hb dJ6_stringSize_0f7a4_16 rfl (lv_at hl 0 rfl) ?_
    refine lv_bipush (v := 10) hx hb dJ6_stringSize_0f7a4_17 (by decide) ?_
    refine lv_icmp_ge (tgt := 42) hx hb dJ6_stringSize_0f7a4_19 (by decide) (fun h4 => absurd h4 ((by decide))) (fun _ => ?_)
    refine lv_iload_n hx hb dJ6_stringSize_0f7a4_22 rfl (lv_at hl 2 rfl) ?_
    refine lv_iload_n hx hb dJ6_stringSize_0f7a4_23 rfl (lv_at hl 1 rfl) ?_
    by_cases c2 : w < 100
    · skip
      refine lv_icmp_le (tgt := 31) hx hb dJ6_stringSize_0f7a4_24 (by decide) (fun h5 => absurd h5 (fun z => absurd ((sb_nle (b := 100) (by omega) (by decide)).mp (show -nI w ≤ -nI 100 from z)) (by omega))) (fun _ => ?_)
      refine lv_iload_n hx hb dJ6_stringSize_0f7a4_27 rfl (lv_at hl 0 rfl) ?_
      refine lv_iload_n hx hb dJ6_stringSize_0f7a4_28 rfl (lv_at hl 3 rfl) ?_
      refine lv_iadd hx hb dJ6_stringSize_0f7a4_29 ?_
      rw [hQQ, show dcn w = 2 from by unfold dcn; rw [if_neg c1, if_pos c2]]
      exact kr_i hx hb hr hlocks hP hD hS dJ6_stringSize_0f7a4_30
    · skip
      refine lv_icmp_le (tgt := 31) hx hb dJ6_stringSize_0f7a4_24 (by decide) (fun _ => ?_) (fun h5 => absurd ((sb_nle (b := 100) (by omega) (by decide)).mpr (by omega)) h5)
      refine lv_bipush (v := 10) hx hb dJ6_stringSize_0f7a4_31 (by decide) ?_
      refine lv_iload_n hx hb dJ6_stringSize_0f7a4_33 rfl (lv_at hl 1 rfl) ?_
      refine lv_imul hx hb dJ6_stringSize_0f7a4_34 ?_
      rw [show ((10 : Int32) * (-100 : Int32)) = (-1000 : Int32) from (by decide)]
      refine lv_istore_n (lv' := [(2, .int (-1000 : Int32)), (3, .int (2 : Int32)), (0, .int (-(nI w))), (1, .int (0 : Int32))]) hx hb dJ6_stringSize_0f7a4_35 rfl hl (by decide) rfl (fun ls hl => ?_)
      refine lv_iinc (v := (3 : Int32)) (lv' := [(3, .int (3 : Int32)), (2, .int (-1000 : Int32)), (0, .int (-(nI w))), (1, .int (0 : Int32))]) hx hb dJ6_stringSize_0f7a4_36 hl (k := 1) rfl (by decide) (by decide) rfl (fun ls hl => ?_)
      refine lv_goto (tgt := 16) hx hb dJ6_stringSize_0f7a4_39 (by decide) ?_
      refine lv_iload_n hx hb dJ6_stringSize_0f7a4_16 rfl (lv_at hl 0 rfl) ?_
      refine lv_bipush (v := 10) hx hb dJ6_stringSize_0f7a4_17 (by decide) ?_
      refine lv_icmp_ge (tgt := 42) hx hb dJ6_stringSize_0f7a4_19 (by decide) (fun h6 => absurd h6 ((by decide))) (fun _ => ?_)
      refine lv_iload_n hx hb dJ6_stringSize_0f7a4_22 rfl (lv_at hl 2 rfl) ?_
      refine lv_iload_n hx hb dJ6_stringSize_0f7a4_23 rfl (lv_at hl 1 rfl) ?_
      by_cases c3 : w < 1000
      · skip
        refine lv_icmp_le (tgt := 31) hx hb dJ6_stringSize_0f7a4_24 (by decide) (fun h7 => absurd h7 (fun z => absurd ((sb_nle (b := 1000) (by omega) (by decide)).mp (show -nI w ≤ -nI 1000 from z)) (by omega))) (fun _ => ?_)
        refine lv_iload_n hx hb dJ6_stringSize_0f7a4_27 rfl (lv_at hl 0 rfl) ?_
        refine lv_iload_n hx hb dJ6_stringSize_0f7a4_28 rfl (lv_at hl 3 rfl) ?_
        refine lv_iadd hx hb dJ6_stringSize_0f7a4_29 ?_
        rw [hQQ, show dcn w = 3 from by unfold dcn; rw [if_neg c1, if_neg c2, if_pos c3]]
        exact kr_i hx hb hr hlocks hP hD hS dJ6_stringSize_0f7a4_30
      · skip
        refine lv_icmp_le (tgt := 31) hx hb dJ6_stringSize_0f7a4_24 (by decide) (fun _ => ?_) (fun h7 => absurd ((sb_nle (b := 1000) (by omega) (by decide)).mpr (by omega)) h7)
        refine lv_bipush (v := 10) hx hb dJ6_stringSize_0f7a4_31 (by decide) ?_
        refine lv_iload_n hx hb dJ6_stringSize_0f7a4_33 rfl (lv_at hl 1 rfl) ?_
        refine lv_imul hx hb dJ6_stringSize_0f7a4_34 ?_
        rw [show ((10 : Int32) * (-1000 : Int32)) = (-10000 : Int32) from (by decide)]
        refine lv_istore_n (lv' := [(2, .int (-10000 : Int32)), (3, .int (3 : Int32)), (0, .int (-(nI w))), (1, .int (0 : Int32))]) hx hb dJ6_stringSize_0f7a4_35 rfl hl (by decide) rfl (fun ls hl => ?_)
        refine lv_iinc (v := (4 : Int32)) (lv' := [(3, .int (4 : Int32)), (2, .int (-10000 : Int32)), (0, .int (-(nI w))), (1, .int (0 : Int32))]) hx hb dJ6_stringSize_0f7a4_36 hl (k := 1) rfl (by decide) (by decide) rfl (fun ls hl => ?_)
        refine lv_goto (tgt := 16) hx hb dJ6_stringSize_0f7a4_39 (by decide) ?_
        refine lv_iload_n hx hb dJ6_stringSize_0f7a4_16 rfl (lv_at hl 0 rfl) ?_
        refine lv_bipush (v := 10) hx hb dJ6_stringSize_0f7a4_17 (by decide) ?_
        refine lv_icmp_ge (tgt := 42) hx hb dJ6_stringSize_0f7a4_19 (by decide) (fun h8 => absurd h8 ((by decide))) (fun _ => ?_)
        refine lv_iload_n hx hb dJ6_stringSize_0f7a4_22 rfl (lv_at hl 2 rfl) ?_
        refine lv_iload_n hx hb dJ6_stringSize_0f7a4_23 rfl (lv_at hl 1 rfl) ?_
        refine lv_icmp_le (tgt := 31) hx hb dJ6_stringSize_0f7a4_24 (by decide) (fun h9 => absurd h9 (fun z => absurd ((sb_nle (b := 10000) (by omega) (by decide)).mp (show -nI w ≤ -nI 10000 from z)) (by omega))) (fun _ => ?_)
        refine lv_iload_n hx hb dJ6_stringSize_0f7a4_27 rfl (lv_at hl 0 rfl) ?_
        refine lv_iload_n hx hb dJ6_stringSize_0f7a4_28 rfl (lv_at hl 3 rfl) ?_
        refine lv_iadd hx hb dJ6_stringSize_0f7a4_29 ?_
        rw [hQQ, show dcn w = 4 from by unfold dcn; rw [if_neg c1, if_neg c2, if_neg c3]]
        exact kr_i hx hb hr hlocks hP hD hS dJ6_stringSize_0f7a4_30
theorem kd_J6_getChars_ba4f3 : yJ6_getChars_ba4f3.cls ≠ "java/lang/invoke/MethodHandle" ∧ yJ6_getChars_ba4f3.cls ≠ "java/lang/invoke/VarHandle" ∧ (parseMethodDescriptor yJ6_getChars_ba4f3.desc).map (fun d => d.parameters.length) = some 3 := by decide +kernel
set_option maxHeartbeats 4000000 in
set_option maxRecDepth 100000 in
theorem c_J6_getChars_ba4f3 {l : Launch} {D : va_G} {cy : Nat → ClassId} (v m0 w n0 sz : Nat) (f : Nat → Int32) (hf : sb_Fit f) (hw : w < 10000) (hfit : n0 + dcn w ≤ m0) (hm : m0 ≤ 200) : Met l yJ6_getChars_ba4f3 wsJ6_getChars_ba4f3 ({ frames := 0, cells := 0, slots := 0, locals := 0 } : Room) (kP (ED D cy) D [.int (nI w), .int (nI (n0 + dcn w)), .ref v] ([(v, .inl (cy 1, m0, .inl f))]) sz) (kQX D (fun (r : Int32) (g : Nat → Int32) => r = nI n0 ∧ dcQ w n0 m0 f g) (fun g => [(v, byE cy m0 g)]) (va_A ([(v, .inl (cy 1, m0, .inl f))]) sz)) 0 0 (va_A ([(v, .inl (cy 1, m0, .inl f))]) sz) := by
  refine kMet (y := yJ6_getChars_ba4f3) (av := [.int (nI w), .int (nI (n0 + dcn w)), .ref v]) (cc := cJ6_getChars_ba4f3) (maxL := 7) (ret := some .int) (own := RJ6) (Qc := fun A9 => (kQX D (fun (r : Int32) (g : Nat → Int32) => r = nI n0 ∧ dcQ w n0 m0 f g) (fun g => [(v, byE cy m0 g)]) A9)) (by decide) rfl rfl (Nat.le_of_ble_eq_true rfl) ?_
  intro p e s m args below meth c A hx hb hr hts hown hml hlocks hname hE hP hD hA hsz ls hl
  have hED := hE
  obtain ⟨hE, ⟨t1, hz1, hv1⟩, t2, hz2, hv2⟩ := hE
  have hK := hE.1
  have hl : lv_has ls 7 [(0, .int (nI w)), (1, .int (nI (n0 + dcn w))), (2, .ref v)] := hl
  have hS : va_S A s.heap s.heap [] := va_S.rf
  have f83 := hts (.fieldLink RJ6 83 "java/lang/Integer" "DigitOnes" "[B") (by decide +kernel)
  have f87 := hts (.fieldLink RJ6 87 "java/lang/Integer" "DigitTens" "[B") (by decide +kernel)
  obtain ⟨QQ, hQQ⟩ : ∃ Q9, Q9 = MQ below (kQX D (fun (r : Int32) (g : Nat → Int32) => r = nI n0 ∧ dcQ w n0 m0 f g) (fun g => [(v, byE cy m0 g)]) A) args s 0 0 A := ⟨_, rfl⟩
  rw [← hQQ]
  obtain ⟨H, hH⟩ : ∃ H9, H9 = s.heap := ⟨_, rfl⟩
  have hP : va_P D vwCl ([(v, .inl (cy 1, m0, .inl f))]) H := by rw [hH]; exact hP
  have hS : va_S A s.heap H [] := by rw [hH]; exact hS
  rw [← hH]
  have hd := dcn_le w
  refine lv_iload_n hx hb dJ6_getChars_ba4f3_0 rfl (lv_at hl 1 rfl) ?_
  refine lv_istore (lv' := [(5, .int (nI (n0 + dcn w))), (0, .int (nI w)), (1, .int (nI (n0 + dcn w))), (2, .ref v)]) hx hb dJ6_getChars_ba4f3_1 hl (by decide) rfl (fun ls hl => ?_)
  refine lv_iload_n hx hb dJ6_getChars_ba4f3_3 rfl (lv_at hl 1 rfl) ?_
  refine lv_if_ge (tgt := 11) hx hb dJ6_getChars_ba4f3_4 (by decide) (fun _ => ?_) (fun h1 => absurd (nI_pos' (by omega)) h1)
  refine lv_iconst (v := 0) hx hb dJ6_getChars_ba4f3_11 (by decide) ?_
  refine lv_istore (lv' := [(6, .int (0 : Int32)), (5, .int (nI (n0 + dcn w))), (0, .int (nI w)), (1, .int (nI (n0 + dcn w))), (2, .ref v)]) hx hb dJ6_getChars_ba4f3_12 hl (by decide) rfl (fun ls hl => ?_)
  refine lv_iload hx hb dJ6_getChars_ba4f3_14 (lv_at hl 0 rfl) ?_
  refine lv_if_ne (tgt := 22) hx hb dJ6_getChars_ba4f3_16 (by decide) (fun h2 => absurd (rfl) h2) (fun _ => ?_)
  refine lv_iload_n hx hb dJ6_getChars_ba4f3_19 rfl (lv_at hl 2 rfl) ?_
  refine lv_ineg hx hb dJ6_getChars_ba4f3_20 ?_
  refine lv_istore_n (lv' := [(0, .int (-(nI w))), (6, .int (0 : Int32)), (5, .int (nI (n0 + dcn w))), (1, .int (nI (n0 + dcn w))), (2, .ref v)]) hx hb dJ6_getChars_ba4f3_21 rfl hl (by decide) rfl (fun ls hl => ?_)
  have J : ∀ (x : Nat) (f2 : Nat → Int32) (H : Heap) (locs : List Loc) (ls : Array Slot), x < 100 → n0 + dcn x ≤ m0 → (∀ g, dcT x n0 (n0 + dcn x) f2 g → dcQ w n0 m0 f g) → va_P D vwCl [(v, .inl (cy 1, m0, .inl f2))] H → va_D A [(v, .inl (cy 1, m0, .inl f2))] → va_S A s.heap H locs → lv_has ls 7 [(0, .int (-nI x)), (2, .ref v), (5, .int (nI (n0 + dcn x))), (6, .int (0 : Int32))] → W p l e ({ frames := 0, cells := 0, slots := 0, locals := 0 } : Room) s m args below meth c H locs 0 0 QQ (F0 m 22 ls []) := by
    intro x f2 H locs ls hx100 hxm hfin hP hD hS hl
    have hdx := dcn_le x
    refine lv_iload_n hx hb dJ6_getChars_ba4f3_22 rfl (lv_at hl 0 rfl) ?_
    refine lv_bipush (v := -100) hx hb dJ6_getChars_ba4f3_23 (by decide) ?_
    refine lv_icmp_gt (tgt := 72) hx hb dJ6_getChars_ba4f3_25 (by decide) (fun _ => ?_) (fun h3 => absurd ((sb_nlt (a := 100) (by decide) (by omega)).mpr hx100) h3)
    obtain ⟨p9, ep9⟩ : ∃ p9 : Nat, p9 + 1 = n0 + dcn x := ⟨n0 + dcn x - 1, by omega⟩
    rw [← ep9] at hl
    refine lv_aload_n hx hb dJ6_getChars_ba4f3_72 rfl (lv_at hl 1 rfl) ?_
    refine lv_iinc (v := (nI p9)) (lv' := [(5, .int (nI p9)), (0, .int (-nI x)), (2, .ref v), (6, .int (0 : Int32))]) hx hb dJ6_getChars_ba4f3_73 hl (k := 2) rfl ((sb_m1 (p := p9 + 1) (by omega))) (by decide) rfl (fun ls hl => ?_)
    refine lv_iload hx hb dJ6_getChars_ba4f3_76 (lv_at hl 0 rfl) ?_
    refine va_gets hx hb hz1 hS hown f83 (fun _ h9 => h9) dJ6_getChars_ba4f3_78 ?_
    refine lv_iload_n hx hb dJ6_getChars_ba4f3_81 rfl (lv_at hl 1 rfl) ?_
    refine lv_ineg hx hb dJ6_getChars_ba4f3_82 ?_
    rw [show (-(-nI x)) = (nI x) from Int32.neg_neg]
    refine va_tb hx hb hv1 hS (i := nI (x)) (vp_in_nI (hx100) (by decide)) (v := .int (nI (48 + (x) % 10))) (by rw [nI_clamp (by omega)]) dJ6_getChars_ba4f3_83 ?_
    by_cases c10 : x < 10
    · skip
      have ex : dcn x = 1 := if_pos c10
      have e9 : p9 = n0 := by omega
      rw [e9] at hl ⊢
      rw [show x % 10 = x from Nat.mod_eq_of_lt c10]
      refine va_bast hx hb hK hP hD hS 0 1 rfl rfl (vp_in_nI (by omega) (by omega)) dJ6_getChars_ba4f3_84 (fun H locs hP hD hS => ?_)
      have hP : va_P D vwCl ([(v, .inl (cy 1, m0, .inl (upd f2 ((nI n0)).toNatClampNeg (vp_nar .byte (nI (48 + x))))))]) H := hP
      have hD : va_D A ([(v, .inl (cy 1, m0, .inl (upd f2 ((nI n0)).toNatClampNeg (vp_nar .byte (nI (48 + x))))))]) := hD
      have e9 : (upd f2 ((nI n0)).toNatClampNeg (vp_nar .byte (nI (48 + x)))) = (upd f2 n0 (nI (48 + x))) := (by rw [nI_clamp (by omega), vp_nar_byte, asc_b (asc_d (by omega))])
      rw [e9] at hP hD
      refine lv_iload_n hx hb dJ6_getChars_ba4f3_85 rfl (lv_at hl 1 rfl) ?_
      refine lv_bipush (v := -9) hx hb dJ6_getChars_ba4f3_86 (by decide) ?_
      refine lv_icmp_ge (tgt := 104) hx hb dJ6_getChars_ba4f3_88 (by decide) (fun _ => ?_) (fun h4 => absurd ((sb_nle (a := 9) (by decide) (by omega)).mpr (by omega)) h4)
      refine lv_iload hx hb dJ6_getChars_ba4f3_104 (lv_at hl 3 rfl) ?_
      refine lv_if_eq (tgt := 118) hx hb dJ6_getChars_ba4f3_106 (by decide) (fun _ => ?_) (fun h5 => absurd (rfl) h5)
      refine lv_iload hx hb dJ6_getChars_ba4f3_118 (lv_at hl 0 rfl) ?_
      have hfin := hfin _ (by rw [ex]; exact dcT1 c10)
      rw [hQQ]
      exact kr_X _ ⟨rfl, hfin⟩ hx hb hr hlocks hP hD hS dJ6_getChars_ba4f3_120 (Nat.le_refl _) (Nat.le_refl _)
    · skip
      have ex : dcn x = 2 := by unfold dcn; rw [if_neg c10, if_pos hx100]
      obtain rfl : p9 = n0 + 1 := by omega
      refine va_bast hx hb hK hP hD hS 0 1 rfl rfl (vp_in_nI (by omega) (by omega)) dJ6_getChars_ba4f3_84 (fun H locs hP hD hS => ?_)
      have hP : va_P D vwCl ([(v, .inl (cy 1, m0, .inl (upd f2 ((nI (n0 + 1))).toNatClampNeg (vp_nar .byte (nI (48 + (x) % 10))))))]) H := hP
      have hD : va_D A ([(v, .inl (cy 1, m0, .inl (upd f2 ((nI (n0 + 1))).toNatClampNeg (vp_nar .byte (nI (48 + (x) % 10))))))]) := hD
      have e9 : (upd f2 ((nI (n0 + 1))).toNatClampNeg (vp_nar .byte (nI (48 + (x) % 10)))) = (upd f2 (n0 + 1) (nI (48 + (x) % 10))) := (by rw [nI_clamp (by omega), vp_nar_byte, asc_b (asc_d (by omega))])
      rw [e9] at hP hD
      refine lv_iload_n hx hb dJ6_getChars_ba4f3_85 rfl (lv_at hl 1 rfl) ?_
      refine lv_bipush (v := -9) hx hb dJ6_getChars_ba4f3_86 (by decide) ?_
      refine lv_icmp_ge (tgt := 104) hx hb dJ6_getChars_ba4f3_88 (by decide) (fun h4 => absurd h4 (fun z => absurd ((sb_nle (a := 9) (by decide) (by omega)).mp (show -nI 9 ≤ -nI x from z)) (by omega))) (fun _ => ?_)
      refine lv_aload_n hx hb dJ6_getChars_ba4f3_91 rfl (lv_at hl 2 rfl) ?_
      refine lv_iinc (v := (nI n0)) (lv' := [(5, .int (nI n0)), (0, .int (-nI x)), (2, .ref v), (6, .int (0 : Int32))]) hx hb dJ6_getChars_ba4f3_92 hl (k := 0) rfl ((sb_m1 (p := n0 + 1) (by omega))) (by decide) rfl (fun ls hl => ?_)
      refine lv_iload hx hb dJ6_getChars_ba4f3_95 (lv_at hl 0 rfl) ?_
      refine va_gets hx hb hz2 hS hown f87 (fun _ h9 => h9) dJ6_getChars_ba4f3_97 ?_
      refine lv_iload_n hx hb dJ6_getChars_ba4f3_100 rfl (lv_at hl 1 rfl) ?_
      refine lv_ineg hx hb dJ6_getChars_ba4f3_101 ?_
      rw [show (-(-nI x)) = (nI x) from Int32.neg_neg]
      refine va_tb hx hb hv2 hS (i := nI (x)) (vp_in_nI (hx100) (by decide)) (v := .int (nI (48 + (x) / 10))) (by rw [nI_clamp (by omega)]) dJ6_getChars_ba4f3_102 ?_
      refine va_bast hx hb hK hP hD hS 0 1 rfl rfl (vp_in_nI (by omega) (by omega)) dJ6_getChars_ba4f3_103 (fun H locs hP hD hS => ?_)
      have hP : va_P D vwCl ([(v, .inl (cy 1, m0, .inl (upd (upd f2 (n0 + 1) (nI (48 + (x) % 10))) ((nI n0)).toNatClampNeg (vp_nar .byte (nI (48 + (x) / 10))))))]) H := hP
      have hD : va_D A ([(v, .inl (cy 1, m0, .inl (upd (upd f2 (n0 + 1) (nI (48 + (x) % 10))) ((nI n0)).toNatClampNeg (vp_nar .byte (nI (48 + (x) / 10))))))]) := hD
      have e9 : (upd (upd f2 (n0 + 1) (nI (48 + (x) % 10))) ((nI n0)).toNatClampNeg (vp_nar .byte (nI (48 + (x) / 10)))) = (upd (upd f2 (n0 + 1) (nI (48 + (x) % 10))) n0 (nI (48 + (x) / 10))) := (by rw [nI_clamp (by omega), vp_nar_byte, asc_b (asc_d (by omega))])
      rw [e9] at hP hD
      refine lv_iload hx hb dJ6_getChars_ba4f3_104 (lv_at hl 3 rfl) ?_
      refine lv_if_eq (tgt := 118) hx hb dJ6_getChars_ba4f3_106 (by decide) (fun _ => ?_) (fun h5 => absurd (rfl) h5)
      refine lv_iload hx hb dJ6_getChars_ba4f3_118 (lv_at hl 0 rfl) ?_
      have hfin := hfin _ (by rw [ex]; exact dcT2 (by omega) hx100)
      rw [hQQ]
      exact kr_X _ ⟨rfl, hfin⟩ hx hb hr hlocks hP hD hS dJ6_getChars_ba4f3_120 (Nat.le_refl _) (Nat.le_refl _)
  by_cases h100 : w < 100
  · skip
    exact J w f H _ ls h100 hfit (fun g hg => dcQ1 hf h100 hg) hP hD hS (lv_sub hl [0, 4, 2, 1] rfl)
  · skip
    refine lv_iload_n hx hb dJ6_getChars_ba4f3_22 rfl (lv_at hl 0 rfl) ?_
    refine lv_bipush (v := -100) hx hb dJ6_getChars_ba4f3_23 (by decide) ?_
    refine lv_icmp_gt (tgt := 72) hx hb dJ6_getChars_ba4f3_25 (by decide) (fun h3 => absurd h3 (fun z => h100 ((sb_nlt (a := 100) (by decide) (by omega)).mp (show -nI 100 < -nI w from z)))) (fun _ => ?_)
    refine lv_iload_n hx hb dJ6_getChars_ba4f3_28 rfl (lv_at hl 0 rfl) ?_
    refine lv_bipush (v := 100) hx hb dJ6_getChars_ba4f3_29 (by decide) ?_
    refine lv_idiv hx hb dJ6_getChars_ba4f3_31 (by decide) ?_
    rw [show ((-(nI w)) / (100 : Int32)) = (-nI (w / 100)) from sb_ndiv (by omega)]
    refine lv_istore_n (lv' := [(3, .int (-nI (w / 100))), (0, .int (-(nI w))), (6, .int (0 : Int32)), (5, .int (nI (n0 + dcn w))), (1, .int (nI (n0 + dcn w))), (2, .ref v)]) hx hb dJ6_getChars_ba4f3_32 rfl hl (by decide) rfl (fun ls hl => ?_)
    refine lv_iload_n hx hb dJ6_getChars_ba4f3_33 rfl (lv_at hl 0 rfl) ?_
    refine lv_bipush (v := 100) hx hb dJ6_getChars_ba4f3_34 (by decide) ?_
    refine lv_imul hx hb dJ6_getChars_ba4f3_36 ?_
    refine lv_iload_n hx hb dJ6_getChars_ba4f3_37 rfl (lv_at hl 1 rfl) ?_
    refine lv_isub hx hb dJ6_getChars_ba4f3_38 ?_
    rw [show (((-nI (w / 100)) * (100 : Int32)) - (-(nI w))) = (nI (w % 100)) from sb_nrem (by omega)]
    refine lv_istore (lv' := [(4, .int (nI (w % 100))), (3, .int (-nI (w / 100))), (0, .int (-(nI w))), (6, .int (0 : Int32)), (5, .int (nI (n0 + dcn w))), (1, .int (nI (n0 + dcn w))), (2, .ref v)]) hx hb dJ6_getChars_ba4f3_39 hl (by decide) rfl (fun ls hl => ?_)
    refine lv_iload_n hx hb dJ6_getChars_ba4f3_41 rfl (lv_at hl 1 rfl) ?_
    refine lv_istore_n (lv' := [(0, .int (-nI (w / 100))), (4, .int (nI (w % 100))), (3, .int (-nI (w / 100))), (6, .int (0 : Int32)), (5, .int (nI (n0 + dcn w))), (1, .int (nI (n0 + dcn w))), (2, .ref v)]) hx hb dJ6_getChars_ba4f3_42 rfl hl (by decide) rfl (fun ls hl => ?_)
    refine lv_aload_n hx hb dJ6_getChars_ba4f3_43 rfl (lv_at hl 6 rfl) ?_
    have h9 := dcn_div (w := w) (by omega) hw
    have h8 := dcn_le (w / 100)
    obtain ⟨p9, ep9⟩ : ∃ p9 : Nat, p9 + 1 = n0 + dcn w := ⟨n0 + dcn w - 1, by omega⟩
    rw [← ep9] at hl
    refine lv_iinc (v := (nI p9)) (lv' := [(5, .int (nI p9)), (0, .int (-nI (w / 100))), (4, .int (nI (w % 100))), (3, .int (-nI (w / 100))), (6, .int (0 : Int32)), (1, .int (nI (p9 + 1))), (2, .ref v)]) hx hb dJ6_getChars_ba4f3_44 hl (k := 4) rfl ((sb_m1 (p := p9 + 1) (by omega))) (by decide) rfl (fun ls hl => ?_)
    have hn9 : n0 + dcn w - 1 = p9 := by omega
    refine lv_iload hx hb dJ6_getChars_ba4f3_47 (lv_at hl 0 rfl) ?_
    refine va_gets hx hb hz1 hS hown f83 (fun _ h9 => h9) dJ6_getChars_ba4f3_49 ?_
    refine lv_iload hx hb dJ6_getChars_ba4f3_52 (lv_at hl 2 rfl) ?_
    refine va_tb hx hb hv1 hS (i := nI (w % 100)) (vp_in_nI (by omega) (by decide)) (v := .int (nI (48 + (w % 100) % 10))) (by rw [nI_clamp (by omega)]) dJ6_getChars_ba4f3_54 ?_
    rw [show (w % 100) % 10 = w % 10 by omega]
    refine va_bast hx hb hK hP hD hS 0 1 rfl rfl (vp_in_nI (by omega) (by omega)) dJ6_getChars_ba4f3_55 (fun H locs hP hD hS => ?_)
    have hP : va_P D vwCl ([(v, .inl (cy 1, m0, .inl (upd f ((nI p9)).toNatClampNeg (vp_nar .byte (nI (48 + w % 10))))))]) H := hP
    have hD : va_D A ([(v, .inl (cy 1, m0, .inl (upd f ((nI p9)).toNatClampNeg (vp_nar .byte (nI (48 + w % 10))))))]) := hD
    have e9 : (upd f ((nI p9)).toNatClampNeg (vp_nar .byte (nI (48 + w % 10)))) = (upd f p9 (nI (48 + w % 10))) := (by rw [nI_clamp (by omega), vp_nar_byte, asc_b (asc_d (by omega))])
    rw [e9] at hP hD
    refine lv_aload_n hx hb dJ6_getChars_ba4f3_56 rfl (lv_at hl 6 rfl) ?_
    obtain ⟨p8, rfl⟩ : ∃ p8 : Nat, p9 = p8 + 1 := ⟨p9 - 1, by omega⟩
    refine lv_iinc (v := (nI p8)) (lv' := [(5, .int (nI p8)), (0, .int (-nI (w / 100))), (4, .int (nI (w % 100))), (3, .int (-nI (w / 100))), (6, .int (0 : Int32)), (1, .int (nI ((p8 + 1) + 1))), (2, .ref v)]) hx hb dJ6_getChars_ba4f3_57 hl (k := 0) rfl ((sb_m1 (p := p8 + 1) (by omega))) (by decide) rfl (fun ls hl => ?_)
    refine lv_iload hx hb dJ6_getChars_ba4f3_60 (lv_at hl 0 rfl) ?_
    refine va_gets hx hb hz2 hS hown f87 (fun _ h9 => h9) dJ6_getChars_ba4f3_62 ?_
    refine lv_iload hx hb dJ6_getChars_ba4f3_65 (lv_at hl 2 rfl) ?_
    refine va_tb hx hb hv2 hS (i := nI (w % 100)) (vp_in_nI (by omega) (by decide)) (v := .int (nI (48 + (w % 100) / 10))) (by rw [nI_clamp (by omega)]) dJ6_getChars_ba4f3_67 ?_
    rw [show (w % 100) / 10 = w / 10 % 10 by omega]
    refine va_bast hx hb hK hP hD hS 0 1 rfl rfl (vp_in_nI (by omega) (by omega)) dJ6_getChars_ba4f3_68 (fun H locs hP hD hS => ?_)
    have hP : va_P D vwCl ([(v, .inl (cy 1, m0, .inl (upd (upd f (p8 + 1) (nI (48 + w % 10))) ((nI p8)).toNatClampNeg (vp_nar .byte (nI (48 + w / 10 % 10))))))]) H := hP
    have hD : va_D A ([(v, .inl (cy 1, m0, .inl (upd (upd f (p8 + 1) (nI (48 + w % 10))) ((nI p8)).toNatClampNeg (vp_nar .byte (nI (48 + w / 10 % 10))))))]) := hD
    have e9 : (upd (upd f (p8 + 1) (nI (48 + w % 10))) ((nI p8)).toNatClampNeg (vp_nar .byte (nI (48 + w / 10 % 10)))) = (upd (upd f (p8 + 1) (nI (48 + w % 10))) p8 (nI (48 + w / 10 % 10))) := (by rw [nI_clamp (by omega), vp_nar_byte, asc_b (asc_d (by omega))])
    rw [e9] at hP hD
    refine lv_goto (tgt := 22) hx hb dJ6_getChars_ba4f3_69 (by decide) ?_
    obtain rfl : p8 = n0 + dcn (w / 100) := by omega
    exact J (w / 100) _ H _ ls (by omega) (by omega) (fun g hg => dcQ2 hf h100 hw (by rw [show n0 + dcn w - 1 = n0 + dcn (w / 100) + 1 by omega, show n0 + dcn w - 2 = n0 + dcn (w / 100) by omega]; exact hg)) hP hD hS (lv_sub hl [1, 6, 0, 4] rfl)
theorem kd_J5_append_c97b9 : yJ5_append_c97b9.cls = RJ5 ∧ yJ5_append_c97b9.cls ≠ "java/lang/invoke/MethodHandle" ∧ yJ5_append_c97b9.cls ≠ "java/lang/invoke/VarHandle" ∧ (parseMethodDescriptor yJ5_append_c97b9.desc).map (fun d => d.parameters.length) = some 1 := by decide +kernel
set_option maxHeartbeats 4000000 in
set_option maxRecDepth 100000 in
theorem c_J5_append_c97b9 {l : Launch} {D : va_G} {cy : Nat → ClassId} (b v m0 w sz : Nat) (ml : Int32) (tx : List Int32) (f : Nat → Int32) (ok : sbOK tx m0 f) (hw : w < 10000) (hn : tx.length ≤ 90) : Met l yJ5_append_c97b9 wsJ5_append_c97b9 ({ frames := 4, cells := 1, slots := 200, locals := 220 } : Room) (kP (ED D cy) D [.ref b, .int (nI w)] ([(b, .inr (12, [.ref v, .int (0 : Int32), .int ml, .int (nI tx.length)])), (v, .inl (cy 1, m0, .inl f))]) sz) (kQR D (fun (u : Nat × Nat × (Nat → Int32)) (r : Nat) => r = b ∧ sbOK (tx ++ dcs w) u.2.1 u.2.2) (fun u _ => [(b, sbE u.1 ml (tx.length + dcn w)), (u.1, byE cy u.2.1 u.2.2)]) (va_A ([(b, .inr (12, [.ref v, .int (0 : Int32), .int ml, .int (nI tx.length)])), (v, .inl (cy 1, m0, .inl f))]) sz)) 1 200 (va_A ([(b, .inr (12, [.ref v, .int (0 : Int32), .int ml, .int (nI tx.length)])), (v, .inl (cy 1, m0, .inl f))]) sz) := by
  refine kMet (y := yJ5_append_c97b9) (av := [.ref b, .int (nI w)]) (cc := cJ5_append_c97b9) (maxL := 4) (ret := some (.object "java/lang/AbstractStringBuilder")) (own := RJ5) (Qc := fun A9 => (kQR D (fun (u : Nat × Nat × (Nat → Int32)) (r : Nat) => r = b ∧ sbOK (tx ++ dcs w) u.2.1 u.2.2) (fun u _ => [(b, sbE u.1 ml (tx.length + dcn w)), (u.1, byE cy u.2.1 u.2.2)]) A9)) (by decide) rfl rfl (Nat.le_of_ble_eq_true rfl) ?_
  intro p e s m args below meth c A hx hb hr hts hown hml hlocks hname hE hP hD hA hsz ls hl
  have hED := hE
  obtain ⟨hE, hDig⟩ := hE
  have hK := hE.1
  have hl : lv_has ls 4 [(0, .ref b), (1, .int (nI w))] := hl
  have hS : va_S A s.heap s.heap [] := va_S.rf
  have f79 := hts (.fieldLink RJ5 79 "java/lang/AbstractStringBuilder" "count" "I") (by decide +kernel)
  have inJ4 : ∀ w ∈ wsJ40, w ∈ wsJ5_append_c97b9 := by decide +kernel
  have f15 := hts (.fieldLink RJ5 15 "java/lang/AbstractStringBuilder" "value" "[B") (by decide +kernel)
  obtain ⟨QQ, hQQ⟩ : ∃ Q9, Q9 = MQ below (kQR D (fun (u : Nat × Nat × (Nat → Int32)) (r : Nat) => r = b ∧ sbOK (tx ++ dcs w) u.2.1 u.2.2) (fun u _ => [(b, sbE u.1 ml (tx.length + dcn w)), (u.1, byE cy u.2.1 u.2.2)]) A) args s 1 200 A := ⟨_, rfl⟩
  rw [← hQQ]
  obtain ⟨H, hH⟩ : ∃ H9, H9 = s.heap := ⟨_, rfl⟩
  have hP : va_P D vwCl ([(b, .inr (12, [.ref v, .int (0 : Int32), .int ml, .int (nI tx.length)])), (v, .inl (cy 1, m0, .inl f))]) H := by rw [hH]; exact hP
  have hS : va_S A s.heap H [] := by rw [hH]; exact hS
  rw [← hH]
  have hd := dcn_le w
  refine lv_aload_n hx hb dJ5_append_c97b9_0 rfl (lv_at hl 0 rfl) ?_
  refine va_get (D := D) (ci := 12) (v := .int (nI tx.length)) (C := RJ4) (T := TJ4) (N := 4) hx hb hts inJ4 hown hK hP 0 rfl rfl 3 (by decide) f79 (fun _ h9 => h9) rfl dJ5_append_c97b9_1 ?_
  refine lv_istore_n (lv' := [(2, .int (nI tx.length)), (0, .ref b), (1, .int (nI w))]) hx hb dJ5_append_c97b9_4 rfl hl (by decide) rfl (fun ls hl => ?_)
  refine lv_iload_n hx hb dJ5_append_c97b9_5 rfl (lv_at hl 0 rfl) ?_
  refine lv_iload_n hx hb dJ5_append_c97b9_6 rfl (lv_at hl 2 rfl) ?_
  refine kg_i (va_runS (As := [.int (nI w)]) (rest := [.int (nI tx.length)]) ⟨hx, hb, hml, hown, hts⟩ (c_J6_stringSize_0f7a4 w H.size hw) (va_cwS 1 hts gJ5_append_c97b9_J6_stringSize_0f7a4 rfl rfl rfl kd_J6_stringSize_0f7a4 ⟨Nat.le_of_ble_eq_true rfl, Nat.le_of_ble_eq_true rfl⟩) ⟨kP_blind (EN_ok D cy) D _ _ _, kStart (EN_ok D cy) hE hP hD hS hA [] rfl rfl _⟩ rfl rfl hl.1 rfl (lv_room (Nat.le_of_ble_eq_true rfl)) dJ5_append_c97b9_7 ⟨Nat.le_of_ble_eq_true rfl, Nat.le_of_ble_eq_true rfl⟩) hP hD hS hA (fun H locs hP hD hS => ?_)
  refine lv_iadd hx hb dJ5_append_c97b9_10 ?_
  rw [show ((nI tx.length) + (nI (dcn w))) = (nI (tx.length + dcn w)) from nI_add _ _]
  refine lv_istore_n (lv' := [(3, .int (nI (tx.length + dcn w))), (2, .int (nI tx.length)), (0, .ref b), (1, .int (nI w))]) hx hb dJ5_append_c97b9_11 rfl hl (by decide) rfl (fun ls hl => ?_)
  refine lv_aload_n hx hb dJ5_append_c97b9_12 rfl (lv_at hl 2 rfl) ?_
  refine lv_iload_n hx hb dJ5_append_c97b9_13 rfl (lv_at hl 0 rfl) ?_
  refine kc_E (va_runU (As := [.int (nI (tx.length + dcn w))]) (rest := []) ⟨hx, hb, hml, hown, hts⟩ (c_J5_ensureCapacityInternal_d00df b v m0 tx.length (tx.length + dcn w) H.size ml f ok.2.1 (by omega) ok.2.2.1) (va_cwU 1 hts gJ5_append_c97b9_J5_ensureCapacityInternal_d00df_u100J4 rfl rfl rfl rfl (by decide +kernel) ⟨Nat.le_of_ble_eq_true rfl, Nat.le_of_ble_eq_true rfl⟩) ⟨kP_blind (EN_ok D cy) D _ _ _, va_recv hK hP (ci := 12) (q0 := 0) rfl rfl, kStart (EN_ok D cy) hE hP hD hS hA [0, 1] rfl rfl _⟩ rfl rfl hl.1 rfl (lv_room (Nat.le_of_ble_eq_true rfl)) dJ5_append_c97b9_14 ⟨Nat.le_of_ble_eq_true rfl, Nat.le_of_ble_eq_true rfl⟩) hP hD hS hA [0, 1] rfl (fun _ => Nat.le_of_ble_eq_true rfl) (fun u H locs hu hP hD hS => ?_)
  obtain ⟨v1, m1, f1⟩ := u
  have hu : tx.length + dcn w ≤ m1 ∧ m1 ≤ 200 ∧ sb_Fit f1 ∧ ∀ j, j < m0 → f1 j = f j := hu
  have hP : va_P D vwCl ([(b, .inr (12, [.ref v1, .int (0 : Int32), .int ml, .int (nI tx.length)])), (v1, .inl (cy 1, m1, .inl f1))]) H := hP
  have hD : va_D A ([(b, .inr (12, [.ref v1, .int (0 : Int32), .int ml, .int (nI tx.length)])), (v1, .inl (cy 1, m1, .inl f1))]) := hD
  refine lv_aload_n hx hb dJ5_append_c97b9_17 rfl (lv_at hl 2 rfl) ?_
  refine kc_i (va_runU (As := []) (rest := []) ⟨hx, hb, hml, hown, hts⟩ (c_J5_isLatin1_aae02 b v1 tx.length H.size ml) (va_cwU 0 hts gJ5_append_c97b9_J5_isLatin1_aae02_u83J4 rfl rfl rfl rfl (by decide +kernel) ⟨Nat.le_of_ble_eq_true rfl, Nat.le_of_ble_eq_true rfl⟩) ⟨kP_blind (EN_ok D cy) D _ _ _, va_recv hK hP (ci := 12) (q0 := 0) rfl rfl, kStart (EN_ok D cy) hE hP hD hS hA [0] rfl rfl _⟩ rfl rfl hl.1 rfl (lv_room (Nat.le_of_ble_eq_true rfl)) dJ5_append_c97b9_18 ⟨Nat.le_of_ble_eq_true rfl, Nat.le_of_ble_eq_true rfl⟩) hP hD hS hA [0] rfl (Nat.le_refl _) (fun H locs hP hD hS => ?_)
  have hP : va_P D vwCl ([(b, .inr (12, [.ref v1, .int (0 : Int32), .int ml, .int (nI tx.length)])), (v1, .inl (cy 1, m1, .inl f1))]) H := hP
  have hD : va_D A ([(b, .inr (12, [.ref v1, .int (0 : Int32), .int ml, .int (nI tx.length)])), (v1, .inl (cy 1, m1, .inl f1))]) := hD
  refine lv_if_eq (tgt := 37) hx hb dJ5_append_c97b9_21 (by decide) (fun h1 => absurd h1 ((by decide : ¬ ((1 : Int32) = 0)))) (fun _ => ?_)
  refine lv_iload_n hx hb dJ5_append_c97b9_24 rfl (lv_at hl 3 rfl) ?_
  refine lv_iload_n hx hb dJ5_append_c97b9_25 rfl (lv_at hl 0 rfl) ?_
  refine lv_aload_n hx hb dJ5_append_c97b9_26 rfl (lv_at hl 2 rfl) ?_
  refine va_get (D := D) (ci := 12) (v := .ref v1) (C := RJ4) (T := TJ4) (N := 4) hx hb hts inJ4 hown hK hP 0 rfl rfl 0 (by decide) f15 (fun _ h9 => h9) rfl dJ5_append_c97b9_27 ?_
  refine kc_X (va_runS (As := [.int (nI w), .int (nI (tx.length + dcn w)), .ref v1]) (rest := []) ⟨hx, hb, hml, hown, hts⟩ (c_J6_getChars_ba4f3 v1 m1 w tx.length H.size f1 hu.2.2.1 hw hu.1 hu.2.1) (va_cwS 3 hts gJ5_append_c97b9_J6_getChars_ba4f3 rfl rfl rfl kd_J6_getChars_ba4f3 ⟨Nat.le_of_ble_eq_true rfl, Nat.le_of_ble_eq_true rfl⟩) ⟨kP_blind (ED_ok D cy) D _ _ _, kStart (ED_ok D cy) hED hP hD hS hA [1] rfl rfl _⟩ rfl rfl hl.1 rfl (lv_room (Nat.le_of_ble_eq_true rfl)) dJ5_append_c97b9_30 ⟨Nat.le_of_ble_eq_true rfl, Nat.le_of_ble_eq_true rfl⟩) hP hD hS hA [1] rfl (fun _ => Nat.le_refl _) (fun r9 g H locs hg hP hD hS => ?_)
  have hP : va_P D vwCl ([(b, .inr (12, [.ref v1, .int (0 : Int32), .int ml, .int (nI tx.length)])), (v1, .inl (cy 1, m1, .inl g))]) H := hP
  have hD : va_D A ([(b, .inr (12, [.ref v1, .int (0 : Int32), .int ml, .int (nI tx.length)])), (v1, .inl (cy 1, m1, .inl g))]) := hD
  refine lv_pop hx hb dJ5_append_c97b9_33 rfl ?_
  refine lv_goto (tgt := 48) hx hb dJ5_append_c97b9_34 (by decide) ?_
  refine lv_aload_n hx hb dJ5_append_c97b9_48 rfl (lv_at hl 2 rfl) ?_
  refine lv_iload_n hx hb dJ5_append_c97b9_49 rfl (lv_at hl 0 rfl) ?_
  refine va_put (D := D) (ci := 12) (v := .int (nI (tx.length + dcn w))) (ty := .int) (C := RJ4) (T := TJ4) (N := 4) hx hb hts inJ4 tyJ4 tyJ4_ok nmJ4 hown hK hP hD hS 0 rfl rfl 3 (by decide) f79 (fun _ h9 => h9) (by decide +kernel) rfl rfl rfl (Nat.le_of_ble_eq_true rfl) dJ5_append_c97b9_50 (fun H locs hP hD hS => ?_)
  have hP : va_P D vwCl ([(b, .inr (12, [.ref v1, .int (0 : Int32), .int ml, .int (nI (tx.length + dcn w))])), (v1, .inl (cy 1, m1, .inl g))]) H := hP
  have hD : va_D A ([(b, .inr (12, [.ref v1, .int (0 : Int32), .int ml, .int (nI (tx.length + dcn w))])), (v1, .inl (cy 1, m1, .inl g))]) := hD
  refine lv_aload_n hx hb dJ5_append_c97b9_53 rfl (lv_at hl 2 rfl) ?_
  rw [hQQ]
  exact kr_R (v1, m1, g) ⟨rfl, sbOK_app (m1 := m1) (g := g) ok (by rw [dcs_len]; exact hu.1) hu.2.1 hg.2.1 (fun j hj => (hg.2.2.1 j hj).trans (hu.2.2.2 j (by have := ok.1; omega))) hg.2.2.2⟩ hx hb hr (Or.inl ⟨_, rfl⟩) hlocks hP hD hS dJ5_append_c97b9_54 (Nat.le_of_ble_eq_true rfl) (Nat.le_of_ble_eq_true rfl)
theorem kd_J4_append_bf812 : yJ4_append_bf812.cls = RJ4 ∧ yJ4_append_bf812.cls ≠ "java/lang/invoke/MethodHandle" ∧ yJ4_append_bf812.cls ≠ "java/lang/invoke/VarHandle" ∧ (parseMethodDescriptor yJ4_append_bf812.desc).map (fun d => d.parameters.length) = some 1 := by decide +kernel
set_option maxHeartbeats 4000000 in
set_option maxRecDepth 100000 in
theorem c_J4_append_bf812 {l : Launch} {D : va_G} {cy : Nat → ClassId} (b v m0 w sz : Nat) (ml : Int32) (tx : List Int32) (f : Nat → Int32) (ok : sbOK tx m0 f) (hw : w < 10000) (hn : tx.length ≤ 90) : Met l yJ4_append_bf812 wsJ4_append_bf812 ({ frames := 5, cells := 1, slots := 200, locals := 280 } : Room) (kP (ED D cy) D [.ref b, .int (nI w)] ([(b, .inr (12, [.ref v, .int (0 : Int32), .int ml, .int (nI tx.length)])), (v, .inl (cy 1, m0, .inl f))]) sz) (kQR D (fun (u : Nat × Nat × (Nat → Int32)) (r : Nat) => r = b ∧ sbOK (tx ++ dcs w) u.2.1 u.2.2) (fun u _ => [(b, sbE u.1 ml (tx.length + dcn w)), (u.1, byE cy u.2.1 u.2.2)]) (va_A ([(b, .inr (12, [.ref v, .int (0 : Int32), .int ml, .int (nI tx.length)])), (v, .inl (cy 1, m0, .inl f))]) sz)) 1 200 (va_A ([(b, .inr (12, [.ref v, .int (0 : Int32), .int ml, .int (nI tx.length)])), (v, .inl (cy 1, m0, .inl f))]) sz) := by
  refine kMet (y := yJ4_append_bf812) (av := [.ref b, .int (nI w)]) (cc := cJ4_append_bf812) (maxL := 2) (ret := some (.object "java/lang/StringBuilder")) (own := RJ4) (Qc := fun A9 => (kQR D (fun (u : Nat × Nat × (Nat → Int32)) (r : Nat) => r = b ∧ sbOK (tx ++ dcs w) u.2.1 u.2.2) (fun u _ => [(b, sbE u.1 ml (tx.length + dcn w)), (u.1, byE cy u.2.1 u.2.2)]) A9)) (by decide) rfl rfl (Nat.le_of_ble_eq_true rfl) ?_
  intro p e s m args below meth c A hx hb hr hts hown hml hlocks hname hE hP hD hA hsz ls hl
  have hED := hE
  obtain ⟨hE, hDig⟩ := hE
  have hK := hE.1
  have hl : lv_has ls 2 [(0, .ref b), (1, .int (nI w))] := hl
  have hS : va_S A s.heap s.heap [] := va_S.rf
  obtain ⟨QQ, hQQ⟩ : ∃ Q9, Q9 = MQ below (kQR D (fun (u : Nat × Nat × (Nat → Int32)) (r : Nat) => r = b ∧ sbOK (tx ++ dcs w) u.2.1 u.2.2) (fun u _ => [(b, sbE u.1 ml (tx.length + dcn w)), (u.1, byE cy u.2.1 u.2.2)]) A) args s 1 200 A := ⟨_, rfl⟩
  rw [← hQQ]
  obtain ⟨H, hH⟩ : ∃ H9, H9 = s.heap := ⟨_, rfl⟩
  have hP : va_P D vwCl ([(b, .inr (12, [.ref v, .int (0 : Int32), .int ml, .int (nI tx.length)])), (v, .inl (cy 1, m0, .inl f))]) H := by rw [hH]; exact hP
  have hS : va_S A s.heap H [] := by rw [hH]; exact hS
  rw [← hH]
  refine lv_aload_n hx hb dJ4_append_bf812_0 rfl (lv_at hl 0 rfl) ?_
  refine lv_iload_n hx hb dJ4_append_bf812_1 rfl (lv_at hl 1 rfl) ?_
  refine kc_R (va_runSU (As := [.int (nI w)]) (rest := []) (hK.1 12 _ rfl).2 ⟨hx, hb, hml, hown, hts⟩ (c_J5_append_c97b9 b v m0 w H.size ml tx f ok hw hn) (va_cwSU 1 hts gJ4_append_bf812_J5_append_c97b9_s53 rfl rfl rfl ⟨by decide, by decide +kernel⟩ ⟨Nat.le_of_ble_eq_true rfl, Nat.le_of_ble_eq_true rfl⟩) ⟨kP_blind (ED_ok D cy) D _ _ _, va_recv hK hP (ci := 12) (q0 := 0) rfl rfl, kStart (ED_ok D cy) hED hP hD hS hA [0, 1] rfl rfl _⟩ rfl rfl hl.1 rfl (lv_room (Nat.le_of_ble_eq_true rfl)) dJ4_append_bf812_2 ⟨Nat.le_of_ble_eq_true rfl, Nat.le_of_ble_eq_true rfl⟩) hP hD hS hA [0, 1] rfl (fun _ _ => Nat.le_of_ble_eq_true rfl) (fun u r H locs hu hP hD hS => ?_)
  obtain ⟨v1, m1, f1⟩ := u
  obtain ⟨rfl, hu⟩ := hu
  have hP : va_P D vwCl ([(r, .inr (12, [.ref v1, .int (0 : Int32), .int ml, .int (nI (tx.length + dcn w))])), (v1, .inl (cy 1, m1, .inl f1))]) H := hP
  have hD : va_D A ([(r, .inr (12, [.ref v1, .int (0 : Int32), .int ml, .int (nI (tx.length + dcn w))])), (v1, .inl (cy 1, m1, .inl f1))]) := hD
  refine lv_pop hx hb dJ4_append_bf812_5 rfl ?_
  refine lv_aload_n hx hb dJ4_append_bf812_6 rfl (lv_at hl 0 rfl) ?_
  rw [hQQ]
  exact kr_R (v1, m1, f1) ⟨rfl, hu⟩ hx hb hr (Or.inl ⟨_, rfl⟩) hlocks hP hD hS dJ4_append_bf812_7 (Nat.le_of_ble_eq_true rfl) (Nat.le_of_ble_eq_true rfl)
