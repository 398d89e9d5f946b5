/-! PHASE 2: the price of a look, both sides -/
def vsF (c k d ho : Nat) : Nat → Int32 := fun i => if i = 0 then nI c else if i = 1 then nI k else if i = 2 then nI d else nI ho
def PPr (sz : Nat) (codes vs : Nat → Int32) : Nat := (prc (stk codes vs sz 0)).toNatClampNeg
theorem PPr_spec (sz : Nat) (codes vs : Nat → Int32) : PPr sz codes vs ≤ 999 ∧ prc (stk codes vs sz 0) = nI (PPr sz codes vs) := by
  obtain ⟨p, h1, h2, -⟩ := prc_R (stk codes vs sz 0)
  unfold PPr
  rw [h2, nI_clamp (by omega)]
  exact ⟨h1, rfl⟩
theorem q_priceFor {counts kinds depths prices codes : Nat → Int32} (waiting : Nat → Int32) {sz q k c kd dp : Nat} (P : PC sz codes) (hk : k < 4) (hq : q < 26) (hc : counts (k * 26 + q) = nI c) (hkd : kinds k = nI kd) (hdp : depths k = nI dp) (hpr : prices (k * 26 + q) = -nI 1 ∨ prices (k * 26 + q) = nI (PPr sz codes (vsF c kd dp k))) :
    ∃ p1 w1, X5_priceFor counts kinds depths prices (nI sz) codes waiting (nI q) (nI k) = some (nI (PPr sz codes (vsF c kd dp k)), p1, w1) ∧ (p1 = prices ∨ p1 = upd prices (k * 26 + q) (nI (PPr sz codes (vsF c kd dp k)))) := by
  obtain ⟨hp1, hp2⟩ := PPr_spec sz codes (vsF c kd dp k)
  unfold X5_priceFor
  rcases hpr with h1 | h1
  · obtain ⟨w1, hv⟩ := q_value P (vsF c kd dp k) waiting
    refine ⟨_, w1, ?_, Or.inr rfl⟩
    simp (disch := omega) only [s_lit, s_b0, s_b1, s_b2, s_b3, s_b4, s_b5, s_b6, s_x0, s_x0l, s_t1, s_nm, s_ckT, s_ld, s_st, s_clamp, nI_add, pk_mul, s_sub, s_nad, s_div, s_mod, s_rem2, s_le_t, s_le_f, s_lt_t, s_lt_f, s_eq_t, s_eq_f, s_n1, s_n2, s_n3, s_n4, s_n5, s_n6, s_n7, s_n8, s_n9, s_n10, s_n11, s_n12, s_us, s_un, s_uLs, s_uLn, ↓reduceIte, not_false_eq_true, not_true_eq_false, true_and, and_true, and_self, or_false, false_or, or_self, true_or, or_true, false_and, and_false, Int32.neg_neg, Nat.add_zero, Nat.zero_add, Nat.reduceSub, Nat.reduceAdd, Nat.reduceMul, Nat.reduceLeDiff, hc, hkd, hdp, h1]
    rw [q_b2 (show X2_value (nI sz) codes waiting (nI c) (nI kd) (nI dp) (nI k) = some (stk codes (vsF c kd dp k) sz 0, w1) from hv)]
    rw [q_b1 (show X6_limited (stk codes (vsF c kd dp k) sz 0).toInt64 (nI 0) (nI 999) = some (nI (PPr sz codes (vsF c kd dp k))) from by rw [← hp2]; rfl)]
  · refine ⟨prices, waiting, ?_, Or.inl rfl⟩
    simp (disch := omega) only [s_lit, s_b0, s_b1, s_b2, s_b3, s_b4, s_b5, s_b6, s_x0, s_x0l, s_t1, s_nm, s_ckT, s_ld, s_st, s_clamp, nI_add, pk_mul, s_sub, s_nad, s_div, s_mod, s_rem2, s_le_t, s_le_f, s_lt_t, s_lt_f, s_eq_t, s_eq_f, s_n1, s_n2, s_n3, s_n4, s_n5, s_n6, s_n7, s_n8, s_n9, s_n10, s_n11, s_n12, s_us, s_un, s_uLs, s_uLn, ↓reduceIte, not_false_eq_true, not_true_eq_false, true_and, and_true, and_self, or_false, false_or, or_self, true_or, or_true, false_and, and_false, Int32.neg_neg, Nat.add_zero, Nat.zero_add, Nat.reduceSub, Nat.reduceAdd, Nat.reduceMul, Nat.reduceLeDiff, h1]
/-- the reference's price: none told, or the codes turned -/
def PAll (sz : Nat) (codes data : Nat → Int32) : Prop := (data 8 = nI 0 ∧ sz = 3 ∧ codes 0 = nI 1 ∧ codes 1 = -nI 1 ∧ codes 2 = -nI 43) ∨ (data 8 = nI 1 ∧ PD sz codes data)
theorem opc_n (v : Nat) (h : v < 2 ^ 30) : opc (nI v) = false := decide_eq_false (by rw [s_n2 (by omega) h]; exact id)
theorem prc_none : ∀ s : Fin 97, prc (comb (-nI 43) (nI 1) (nI s.val)) = nI (1 + s.val) := by decide +kernel
theorem stk_none {codes vs : Nat → Int32} (h0 : codes 0 = nI 1) (h1 : codes 1 = -nI 1) (h2 : codes 2 = -nI 43) : stk codes vs 3 0 = comb (-nI 43) (nI 1) (vs 0) := by
  have o0 : opc (codes 0) = false := by rw [h0]; exact opc_n 1 (by omega)
  have o1 : opc (codes 1) = false := by rw [h1]; decide +kernel
  have o2 : opc (codes 2) = true := by rw [h2]; decide +kernel
  have g1 : hOf codes 1 = 1 := hOf_no o0
  have g2 : hOf codes 2 = 2 := (hOf_no o1).trans (by rw [g1])
  rw [stk_op o2, stk_no o1, stk_no o0, g2, g1, h0, h1, h2, opnd_v vs (by omega), show opnd vs (-nI 1) = vs 0 from opnd_k vs 0 (by omega)]
  show upd _ 0 (comb _ (upd (upd _ 0 (nI 1)) 1 (vs 0) 0) (upd _ 1 (vs 0) 1)) 0 = _
  rw [pk_us, pk_us, pk_un (by omega), pk_us]
theorem r_priceOf {data codes : Nat → Int32} (stack : Nat → Int64) (facts : Nat → Int32) {sz q k c kd dp : Nat} (P : PC sz codes) (D : PAll sz codes data) (hc : c ≤ 96) (h1 : X7_showing data (nI k) (nI q) = some (nI c)) (h2 : X7_kindsOf data (nI k) = some (nI kd)) (h3 : X7_depthOf data (nI k) = some (nI dp)) : ∃ s1 f1, X7_priceOf data stack facts (nI q) (nI k) = some (nI (PPr sz codes (vsF c kd dp k)), s1, f1) := by
  obtain ⟨hp1, hp2⟩ := PPr_spec sz codes (vsF c kd dp k)
  unfold X7_priceOf
  rcases D with ⟨h8, e, c0, c1, c2⟩ | ⟨h8, D⟩
  · subst e
    have hpp : nI (PPr 3 codes (vsF c kd dp k)) = nI (1 + c) := by
      rw [← hp2, stk_none c0 c1 c2]
      exact prc_none ⟨c, by omega⟩
    refine ⟨stack, upd facts 0 (nI c), ?_⟩
    rw [hpp, q_b1 h1]
    simp (disch := omega) only [s_lit, s_b0, s_b1, s_b2, s_b3, s_b4, s_b5, s_b6, s_x0, s_x0l, s_t1, s_nm, s_ckT, s_ld, s_st, s_clamp, nI_add, pk_mul, s_sub, s_nad, s_div, s_mod, s_rem2, s_le_t, s_le_f, s_lt_t, s_lt_f, s_eq_t, s_eq_f, s_n1, s_n2, s_n3, s_n4, s_n5, s_n6, s_n7, s_n8, s_n9, s_n10, s_n11, s_n12, s_us, s_un, s_uLs, s_uLn, ↓reduceIte, not_false_eq_true, not_true_eq_false, true_and, and_true, and_self, or_false, false_or, or_self, true_or, or_true, false_and, and_false, Int32.neg_neg, Nat.add_zero, Nat.zero_add, Nat.reduceSub, Nat.reduceAdd, Nat.reduceMul, Nat.reduceLeDiff, h8]
  · obtain ⟨p, g1, g2, g3⟩ := prc_R (stk codes (vsF c kd dp k) sz 0)
    have hpp : nI p = nI (PPr sz codes (vsF c kd dp k)) := by rw [← g2, ← hp2]
    rw [q_b1 h1, ← hpp]
    simp (disch := omega) only [s_lit, s_b0, s_b1, s_b2, s_b3, s_b4, s_b5, s_b6, s_x0, s_x0l, s_t1, s_nm, s_ckT, s_ld, s_st, s_clamp, nI_add, pk_mul, s_sub, s_nad, s_div, s_mod, s_rem2, s_le_t, s_le_f, s_lt_t, s_lt_f, s_eq_t, s_eq_f, s_n1, s_n2, s_n3, s_n4, s_n5, s_n6, s_n7, s_n8, s_n9, s_n10, s_n11, s_n12, s_us, s_un, s_uLs, s_uLn, ↓reduceIte, not_false_eq_true, not_true_eq_false, true_and, and_true, and_self, or_false, false_or, or_self, true_or, or_true, false_and, and_false, Int32.neg_neg, Nat.add_zero, Nat.zero_add, Nat.reduceSub, Nat.reduceAdd, Nat.reduceMul, Nat.reduceLeDiff, h8, h2, h3]
    obtain ⟨s1, hs⟩ := r_priceL P D (vs := vsF c kd dp k) (facts := upd (upd (upd (upd facts 0 (nI c)) 1 (nI kd)) 2 (nI dp)) 3 (nI k)) (fun j hj => by
      rcases (show j = 0 ∨ j = 1 ∨ j = 2 ∨ j = 3 by omega) with e | e | e | e <;> subst e
      · rw [pk_un (by omega), pk_un (by omega), pk_un (by omega), pk_us]; rfl
      · rw [pk_un (by omega), pk_un (by omega), pk_us]; rfl
      · rw [pk_un (by omega), pk_us]; rfl
      · rw [pk_us]; rfl) (nI q) (nI k) g3 FU 0 (vp_updL stack 0 0) (by have := P.1; unfold FU; omega) (Nat.zero_le _) (fun j hj => absurd hj (Nat.not_lt_zero _))
    exact ⟨s1, _, hs⟩
/-- what a box's looks show, in numbers -/
def cnB (w h : Nat) (sk : Nat → Nat) (q : Nat) : Nat := cntN (fun t => decide (sk t = q)) (w * h)
def kdB (w h : Nat) (sk : Nat → Nat) : Nat := cntN (fun q => anyN (fun t => decide (sk t = q)) (w * h)) 26
def dpB (w h : Nat) (sp : Nat → Nat) : Nat := sumN (fun t => sp t + 1) (w * h) / (w * h)
def PrB (w h n : Nat) (cells : Nat → Int32) (pull hx hy : Nat → Nat) (sz : Nat) (codes : Nat → Int32) (k q : Nat) : Nat :=
  PPr sz codes (vsF (cnB w h (skB w h n cells pull (hx k) (hy k)) q) (kdB w h (skB w h n cells pull (hx k) (hy k))) (dpB w h (spB w h n cells pull (hx k) (hy k))) k)
