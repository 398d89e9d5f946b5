/-! NUMBERS: the class' checksum and the law's own; agrees answers true -/
section XE
variable {G : LG} {w h n HN sz V LL rc : Nat} {pull hx hy : Nat → Nat} {cells pulls holeX holeY codes : Nat → Int32} {ti : Int32} {lk fa d : Nat → Int32}
theorem y_state (N : ShowN w h n HN sz V LL rc pull hx hy cells pulls holeX holeY codes ti lk fa d) {i : Nat} (hi : i < 14) : X6_state (nI w) (nI h) (nI n) (nI HN) (nI rc) (nI V) (nI LL) ti fa (nI i) = some (.inr (toldV w h n HN V LL rc ti fa (cntN (fun k => decide (lk k = -nI 1)) HN) i)) := by
  obtain ⟨⟨S, B, C, R⟩, -, ⟨b1, b2, b3, b4, b5⟩, ⟨d4, d5, d6, d7⟩, I, VR⟩ := N
  have c1 := q_stN fa b3
  have c3 := q_paidI fa b3
  have eh := looks_holes b3 S.2.2.2.1 I
  have ef := cntN_not (fun k => decide (lk k = -nI 1)) HN
  have e9 : nI HN - nI (stN fa V (nI 1)) = nI (cntN (fun k => decide (lk k = -nI 1)) HN) := by rw [eh, pk_sub (by omega)]; congr 1; omega
  unfold X6_state
  rcases (show i = 0 ∨ i = 1 ∨ i = 2 ∨ i = 3 ∨ i = 4 ∨ i = 5 ∨ i = 6 ∨ i = 7 ∨ i = 8 ∨ i = 9 ∨ i = 10 ∨ i = 11 ∨ i = 12 ∨ i = 13 by omega) with e | e | e | e | e | e | e | e | e | e | e | e | e | e <;> subst e
  · simp (disch := omega) only [s_lit, s_b0, s_b1, s_b2, s_b3, s_b4, s_b5, s_b6, s_x0, s_x0l, s_t1, s_nm, s_ckT, s_ld, s_st, s_clamp, nI_add, pk_mul, s_sub, s_nad, s_div, s_mod, s_rem2, s_le_t, s_le_f, s_lt_t, s_lt_f, s_eq_t, s_eq_f, s_n1, s_n2, s_n3, s_n4, s_n5, s_n6, s_n7, s_n8, s_n9, s_n10, s_n11, s_n12, s_us, s_un, s_uLs, s_uLn, ↓reduceIte, not_false_eq_true, not_true_eq_false, true_and, and_true, and_self, or_false, false_or, or_self, true_or, or_true, false_and, and_false, Int32.neg_neg, Nat.add_zero, Nat.zero_add, Nat.reduceSub, Nat.reduceAdd, Nat.reduceMul, Nat.reduceLeDiff, toldV]
  · simp (disch := omega) only [s_lit, s_b0, s_b1, s_b2, s_b3, s_b4, s_b5, s_b6, s_x0, s_x0l, s_t1, s_nm, s_ckT, s_ld, s_st, s_clamp, nI_add, pk_mul, s_sub, s_nad, s_div, s_mod, s_rem2, s_le_t, s_le_f, s_lt_t, s_lt_f, s_eq_t, s_eq_f, s_n1, s_n2, s_n3, s_n4, s_n5, s_n6, s_n7, s_n8, s_n9, s_n10, s_n11, s_n12, s_us, s_un, s_uLs, s_uLn, ↓reduceIte, not_false_eq_true, not_true_eq_false, true_and, and_true, and_self, or_false, false_or, or_self, true_or, or_true, false_and, and_false, Int32.neg_neg, Nat.add_zero, Nat.zero_add, Nat.reduceSub, Nat.reduceAdd, Nat.reduceMul, Nat.reduceLeDiff, toldV]
  · simp (disch := omega) only [s_lit, s_b0, s_b1, s_b2, s_b3, s_b4, s_b5, s_b6, s_x0, s_x0l, s_t1, s_nm, s_ckT, s_ld, s_st, s_clamp, nI_add, pk_mul, s_sub, s_nad, s_div, s_mod, s_rem2, s_le_t, s_le_f, s_lt_t, s_lt_f, s_eq_t, s_eq_f, s_n1, s_n2, s_n3, s_n4, s_n5, s_n6, s_n7, s_n8, s_n9, s_n10, s_n11, s_n12, s_us, s_un, s_uLs, s_uLn, ↓reduceIte, not_false_eq_true, not_true_eq_false, true_and, and_true, and_self, or_false, false_or, or_self, true_or, or_true, false_and, and_false, Int32.neg_neg, Nat.add_zero, Nat.zero_add, Nat.reduceSub, Nat.reduceAdd, Nat.reduceMul, Nat.reduceLeDiff, toldV]
  · simp (disch := omega) only [s_lit, s_b0, s_b1, s_b2, s_b3, s_b4, s_b5, s_b6, s_x0, s_x0l, s_t1, s_nm, s_ckT, s_ld, s_st, s_clamp, nI_add, pk_mul, s_sub, s_nad, s_div, s_mod, s_rem2, s_le_t, s_le_f, s_lt_t, s_lt_f, s_eq_t, s_eq_f, s_n1, s_n2, s_n3, s_n4, s_n5, s_n6, s_n7, s_n8, s_n9, s_n10, s_n11, s_n12, s_us, s_un, s_uLs, s_uLn, ↓reduceIte, not_false_eq_true, not_true_eq_false, true_and, and_true, and_self, or_false, false_or, or_self, true_or, or_true, false_and, and_false, Int32.neg_neg, Nat.add_zero, Nat.zero_add, Nat.reduceSub, Nat.reduceAdd, Nat.reduceMul, Nat.reduceLeDiff, toldV]
  · simp (disch := omega) only [s_lit, s_b0, s_b1, s_b2, s_b3, s_b4, s_b5, s_b6, s_x0, s_x0l, s_t1, s_nm, s_ckT, s_ld, s_st, s_clamp, nI_add, pk_mul, s_sub, s_nad, s_div, s_mod, s_rem2, s_le_t, s_le_f, s_lt_t, s_lt_f, s_eq_t, s_eq_f, s_n1, s_n2, s_n3, s_n4, s_n5, s_n6, s_n7, s_n8, s_n9, s_n10, s_n11, s_n12, s_us, s_un, s_uLs, s_uLn, ↓reduceIte, not_false_eq_true, not_true_eq_false, true_and, and_true, and_self, or_false, false_or, or_self, true_or, or_true, false_and, and_false, Int32.neg_neg, Nat.add_zero, Nat.zero_add, Nat.reduceSub, Nat.reduceAdd, Nat.reduceMul, Nat.reduceLeDiff, toldV]
  · simp (disch := omega) only [s_lit, s_b0, s_b1, s_b2, s_b3, s_b4, s_b5, s_b6, s_x0, s_x0l, s_t1, s_nm, s_ckT, s_ld, s_st, s_clamp, nI_add, pk_mul, s_sub, s_nad, s_div, s_mod, s_rem2, s_le_t, s_le_f, s_lt_t, s_lt_f, s_eq_t, s_eq_f, s_n1, s_n2, s_n3, s_n4, s_n5, s_n6, s_n7, s_n8, s_n9, s_n10, s_n11, s_n12, s_us, s_un, s_uLs, s_uLn, ↓reduceIte, not_false_eq_true, not_true_eq_false, true_and, and_true, and_self, or_false, false_or, or_self, true_or, or_true, false_and, and_false, Int32.neg_neg, Nat.add_zero, Nat.zero_add, Nat.reduceSub, Nat.reduceAdd, Nat.reduceMul, Nat.reduceLeDiff, toldV]
  · simp (disch := omega) only [s_lit, s_b0, s_b1, s_b2, s_b3, s_b4, s_b5, s_b6, s_x0, s_x0l, s_t1, s_nm, s_ckT, s_ld, s_st, s_clamp, nI_add, pk_mul, s_sub, s_nad, s_div, s_mod, s_rem2, s_le_t, s_le_f, s_lt_t, s_lt_f, s_eq_t, s_eq_f, s_n1, s_n2, s_n3, s_n4, s_n5, s_n6, s_n7, s_n8, s_n9, s_n10, s_n11, s_n12, s_us, s_un, s_uLs, s_uLn, ↓reduceIte, not_false_eq_true, not_true_eq_false, true_and, and_true, and_self, or_false, false_or, or_self, true_or, or_true, false_and, and_false, Int32.neg_neg, Nat.add_zero, Nat.zero_add, Nat.reduceSub, Nat.reduceAdd, Nat.reduceMul, Nat.reduceLeDiff, toldV]
  · simp (disch := omega) only [s_lit, s_b0, s_b1, s_b2, s_b3, s_b4, s_b5, s_b6, s_x0, s_x0l, s_t1, s_nm, s_ckT, s_ld, s_st, s_clamp, nI_add, pk_mul, s_sub, s_nad, s_div, s_mod, s_rem2, s_le_t, s_le_f, s_lt_t, s_lt_f, s_eq_t, s_eq_f, s_n1, s_n2, s_n3, s_n4, s_n5, s_n6, s_n7, s_n8, s_n9, s_n10, s_n11, s_n12, s_us, s_un, s_uLs, s_uLn, ↓reduceIte, not_false_eq_true, not_true_eq_false, true_and, and_true, and_self, or_false, false_or, or_self, true_or, or_true, false_and, and_false, Int32.neg_neg, Nat.add_zero, Nat.zero_add, Nat.reduceSub, Nat.reduceAdd, Nat.reduceMul, Nat.reduceLeDiff, toldV]
  · simp (disch := omega) only [s_lit, s_b0, s_b1, s_b2, s_b3, s_b4, s_b5, s_b6, s_x0, s_x0l, s_t1, s_nm, s_ckT, s_ld, s_st, s_clamp, nI_add, pk_mul, s_sub, s_nad, s_div, s_mod, s_rem2, s_le_t, s_le_f, s_lt_t, s_lt_f, s_eq_t, s_eq_f, s_n1, s_n2, s_n3, s_n4, s_n5, s_n6, s_n7, s_n8, s_n9, s_n10, s_n11, s_n12, s_us, s_un, s_uLs, s_uLn, ↓reduceIte, not_false_eq_true, not_true_eq_false, true_and, and_true, and_self, or_false, false_or, or_self, true_or, or_true, false_and, and_false, Int32.neg_neg, Nat.add_zero, Nat.zero_add, Nat.reduceSub, Nat.reduceAdd, Nat.reduceMul, Nat.reduceLeDiff, c1, toldV]
  · simp (disch := omega) only [s_lit, s_b0, s_b1, s_b2, s_b3, s_b4, s_b5, s_b6, s_x0, s_x0l, s_t1, s_nm, s_ckT, s_ld, s_st, s_clamp, nI_add, pk_mul, s_sub, s_nad, s_div, s_mod, s_rem2, s_le_t, s_le_f, s_lt_t, s_lt_f, s_eq_t, s_eq_f, s_n1, s_n2, s_n3, s_n4, s_n5, s_n6, s_n7, s_n8, s_n9, s_n10, s_n11, s_n12, s_us, s_un, s_uLs, s_uLn, ↓reduceIte, not_false_eq_true, not_true_eq_false, true_and, and_true, and_self, or_false, false_or, or_self, true_or, or_true, false_and, and_false, Int32.neg_neg, Nat.add_zero, Nat.zero_add, Nat.reduceSub, Nat.reduceAdd, Nat.reduceMul, Nat.reduceLeDiff, c1, toldV]
  · simp (disch := omega) only [s_lit, s_b0, s_b1, s_b2, s_b3, s_b4, s_b5, s_b6, s_x0, s_x0l, s_t1, s_nm, s_ckT, s_ld, s_st, s_clamp, nI_add, pk_mul, s_sub, s_nad, s_div, s_mod, s_rem2, s_le_t, s_le_f, s_lt_t, s_lt_f, s_eq_t, s_eq_f, s_n1, s_n2, s_n3, s_n4, s_n5, s_n6, s_n7, s_n8, s_n9, s_n10, s_n11, s_n12, s_us, s_un, s_uLs, s_uLn, ↓reduceIte, not_false_eq_true, not_true_eq_false, true_and, and_true, and_self, or_false, false_or, or_self, true_or, or_true, false_and, and_false, Int32.neg_neg, Nat.add_zero, Nat.zero_add, Nat.reduceSub, Nat.reduceAdd, Nat.reduceMul, Nat.reduceLeDiff, c1, toldV]
  · simp (disch := omega) only [s_lit, s_b0, s_b1, s_b2, s_b3, s_b4, s_b5, s_b6, s_x0, s_x0l, s_t1, s_nm, s_ckT, s_ld, s_st, s_clamp, nI_add, pk_mul, s_sub, s_nad, s_div, s_mod, s_rem2, s_le_t, s_le_f, s_lt_t, s_lt_f, s_eq_t, s_eq_f, s_n1, s_n2, s_n3, s_n4, s_n5, s_n6, s_n7, s_n8, s_n9, s_n10, s_n11, s_n12, s_us, s_un, s_uLs, s_uLn, ↓reduceIte, not_false_eq_true, not_true_eq_false, true_and, and_true, and_self, or_false, false_or, or_self, true_or, or_true, false_and, and_false, Int32.neg_neg, Nat.add_zero, Nat.zero_add, Nat.reduceSub, Nat.reduceAdd, Nat.reduceMul, Nat.reduceLeDiff, c1, toldV]
  · simp (disch := omega) only [s_lit, s_b0, s_b1, s_b2, s_b3, s_b4, s_b5, s_b6, s_x0, s_x0l, s_t1, s_nm, s_ckT, s_ld, s_st, s_clamp, nI_add, pk_mul, s_sub, s_nad, s_div, s_mod, s_rem2, s_le_t, s_le_f, s_lt_t, s_lt_f, s_eq_t, s_eq_f, s_n1, s_n2, s_n3, s_n4, s_n5, s_n6, s_n7, s_n8, s_n9, s_n10, s_n11, s_n12, s_us, s_un, s_uLs, s_uLn, ↓reduceIte, not_false_eq_true, not_true_eq_false, true_and, and_true, and_self, or_false, false_or, or_self, true_or, or_true, false_and, and_false, Int32.neg_neg, Nat.add_zero, Nat.zero_add, Nat.reduceSub, Nat.reduceAdd, Nat.reduceMul, Nat.reduceLeDiff, c3, toldV]
  · simp (disch := omega) only [s_lit, s_b0, s_b1, s_b2, s_b3, s_b4, s_b5, s_b6, s_x0, s_x0l, s_t1, s_nm, s_ckT, s_ld, s_st, s_clamp, nI_add, pk_mul, s_sub, s_nad, s_div, s_mod, s_rem2, s_le_t, s_le_f, s_lt_t, s_lt_f, s_eq_t, s_eq_f, s_n1, s_n2, s_n3, s_n4, s_n5, s_n6, s_n7, s_n8, s_n9, s_n10, s_n11, s_n12, s_us, s_un, s_uLs, s_uLn, ↓reduceIte, not_false_eq_true, not_true_eq_false, true_and, and_true, and_self, or_false, false_or, or_self, true_or, or_true, false_and, and_false, Int32.neg_neg, Nat.add_zero, Nat.zero_add, Nat.reduceSub, Nat.reduceAdd, Nat.reduceMul, Nat.reduceLeDiff, c1, e9, toldV]
theorem y_plane (N : ShowN w h n HN sz V LL rc pull hx hy cells pulls holeX holeY codes ti lk fa d) {seen counts kinds depths : Nat → Int32} (Vw : VOK w h n HN cells pull hx hy seen counts kinds depths) {p j : Nat} (hp : p < n) (hj : j < 3) : X6_plane (nI w) (nI h) (nI n) (nI HN) cells pulls seen (nI p) (nI j) = some (.inr (ofpV w h n HN cells pull hx hy p j)) := by
  have see := fun k (hk : k < HN) => N.see hk
  obtain ⟨⟨S, B, C, R⟩, -⟩ := N
  have s1 := S.1
  have s2 := S.2.1
  have s3 := S.2.2.1
  have s4 := S.2.2.2.1
  have s5 := S.2.2.2.2.1 p hp
  obtain ⟨a, b⟩ : X6_requirePlane (nI n) (nI p) = some (.inr ()) ∧ True := by
    unfold X6_requirePlane
    exact ⟨by simp (disch := omega) only [s_lit, s_b0, s_b1, s_b2, s_b3, s_b4, s_b5, s_b6, s_x0, s_x0l, s_t1, s_nm, s_ckT, s_ld, s_st, s_clamp, nI_add, pk_mul, s_sub, s_nad, s_div, s_mod, s_rem2, s_le_t, s_le_f, s_lt_t, s_lt_f, s_eq_t, s_eq_f, s_n1, s_n2, s_n3, s_n4, s_n5, s_n6, s_n7, s_n8, s_n9, s_n10, s_n11, s_n12, s_us, s_un, s_uLs, s_uLn, ↓reduceIte, not_false_eq_true, not_true_eq_false, true_and, and_true, and_self, or_false, false_or, or_self, true_or, or_true, false_and, and_false, Int32.neg_neg, Nat.add_zero, Nat.zero_add, Nat.reduceSub, Nat.reduceAdd, Nat.reduceMul, Nat.reduceLeDiff], trivial⟩
  unfold X6_plane
  rcases (show j = 0 ∨ j = 1 ∨ j = 2 by omega) with e | e | e <;> subst e
  · simp (disch := omega) only [s_lit, s_b0, s_b1, s_b2, s_b3, s_b4, s_b5, s_b6, s_x0, s_x0l, s_t1, s_nm, s_ckT, s_ld, s_st, s_clamp, nI_add, pk_mul, s_sub, s_nad, s_div, s_mod, s_rem2, s_le_t, s_le_f, s_lt_t, s_lt_f, s_eq_t, s_eq_f, s_n1, s_n2, s_n3, s_n4, s_n5, s_n6, s_n7, s_n8, s_n9, s_n10, s_n11, s_n12, s_us, s_un, s_uLs, s_uLn, ↓reduceIte, not_false_eq_true, not_true_eq_false, true_and, and_true, and_self, or_false, false_or, or_self, true_or, or_true, false_and, and_false, Int32.neg_neg, Nat.add_zero, Nat.zero_add, Nat.reduceSub, Nat.reduceAdd, Nat.reduceMul, Nat.reduceLeDiff, a, C.1 p hp, ofpV]
  · have k1 := q_standing (cells := cells) (p := p) (by omega) s1.2 s2.2 (C.1 p hp) (by omega)
    simp (disch := omega) only [s_lit, s_b0, s_b1, s_b2, s_b3, s_b4, s_b5, s_b6, s_x0, s_x0l, s_t1, s_nm, s_ckT, s_ld, s_st, s_clamp, nI_add, pk_mul, s_sub, s_nad, s_div, s_mod, s_rem2, s_le_t, s_le_f, s_lt_t, s_lt_f, s_eq_t, s_eq_f, s_n1, s_n2, s_n3, s_n4, s_n5, s_n6, s_n7, s_n8, s_n9, s_n10, s_n11, s_n12, s_us, s_un, s_uLs, s_uLn, ↓reduceIte, not_false_eq_true, not_true_eq_false, true_and, and_true, and_self, or_false, false_or, or_self, true_or, or_true, false_and, and_false, Int32.neg_neg, Nat.add_zero, Nat.zero_add, Nat.reduceSub, Nat.reduceAdd, Nat.reduceMul, Nat.reduceLeDiff, a, k1, ofpV]
  · have k1 : X5_targetsOf seen (nI w) (nI h) (nI HN) (nI p) = some (nI (sumN (fun k => cntN (seB (fun k => spB w h n cells pull (hx k) (hy k)) p k) (w * h)) HN)) := by
      unfold X5_targetsOf
      exact q_targL5 (sk := fun k => skB w h n cells pull (hx k) (hy k)) s1.2 s2.2 s4 (by omega) (fun k hk => (Vw k hk).2.2.2) (fun k hk t ht => ⟨Nat.lt_of_lt_of_le (seeP_lt _ s3.1) s3.2, (see k hk).2.2 t ht |>.2.2.2⟩) FU 0 0 (by unfold FU; omega) (Nat.zero_le _) rfl
    simp (disch := omega) only [s_lit, s_b0, s_b1, s_b2, s_b3, s_b4, s_b5, s_b6, s_x0, s_x0l, s_t1, s_nm, s_ckT, s_ld, s_st, s_clamp, nI_add, pk_mul, s_sub, s_nad, s_div, s_mod, s_rem2, s_le_t, s_le_f, s_lt_t, s_lt_f, s_eq_t, s_eq_f, s_n1, s_n2, s_n3, s_n4, s_n5, s_n6, s_n7, s_n8, s_n9, s_n10, s_n11, s_n12, s_us, s_un, s_uLs, s_uLn, ↓reduceIte, not_false_eq_true, not_true_eq_false, true_and, and_true, and_self, or_false, false_or, or_self, true_or, or_true, false_and, and_false, Int32.neg_neg, Nat.add_zero, Nat.zero_add, Nat.reduceSub, Nat.reduceAdd, Nat.reduceMul, Nat.reduceLeDiff, a, k1, ofpV]
theorem y_hole (N : ShowN w h n HN sz V LL rc pull hx hy cells pulls holeX holeY codes ti lk fa d) {seen counts kinds depths : Nat → Int32} (Vw : VOK w h n HN cells pull hx hy seen counts kinds depths) {k j : Nat} (hk : k < HN) (hj : j < 5) : X6_hole (nI HN) holeX holeY lk kinds depths (nI k) (nI j) = some (.inr (ofhV w h n cells pull hx hy lk k j)) := by
  obtain ⟨⟨S, B, C, R⟩, -, ⟨b1, b2, b3, b4, b5⟩, ⟨d4, d5, d6, d7⟩, I, VR⟩ := N
  have s4 := S.2.2.2.1
  obtain ⟨v1, v2, v3, v4⟩ := Vw k hk
  obtain ⟨C1, C2⟩ := C.2 k hk
  have a : X6_requireHole (nI HN) (nI k) = some (.inr ()) := by
    unfold X6_requireHole
    simp (disch := omega) only [s_lit, s_b0, s_b1, s_b2, s_b3, s_b4, s_b5, s_b6, s_x0, s_x0l, s_t1, s_nm, s_ckT, s_ld, s_st, s_clamp, nI_add, pk_mul, s_sub, s_nad, s_div, s_mod, s_rem2, s_le_t, s_le_f, s_lt_t, s_lt_f, s_eq_t, s_eq_f, s_n1, s_n2, s_n3, s_n4, s_n5, s_n6, s_n7, s_n8, s_n9, s_n10, s_n11, s_n12, s_us, s_un, s_uLs, s_uLn, ↓reduceIte, not_false_eq_true, not_true_eq_false, true_and, and_true, and_self, or_false, false_or, or_self, true_or, or_true, false_and, and_false, Int32.neg_neg, Nat.add_zero, Nat.zero_add, Nat.reduceSub, Nat.reduceAdd, Nat.reduceMul, Nat.reduceLeDiff]
  unfold X6_hole
  rcases (show j = 0 ∨ j = 1 ∨ j = 2 ∨ j = 3 ∨ j = 4 by omega) with e | e | e | e | e <;> subst e
  · simp (disch := omega) only [s_lit, s_b0, s_b1, s_b2, s_b3, s_b4, s_b5, s_b6, s_x0, s_x0l, s_t1, s_nm, s_ckT, s_ld, s_st, s_clamp, nI_add, pk_mul, s_sub, s_nad, s_div, s_mod, s_rem2, s_le_t, s_le_f, s_lt_t, s_lt_f, s_eq_t, s_eq_f, s_n1, s_n2, s_n3, s_n4, s_n5, s_n6, s_n7, s_n8, s_n9, s_n10, s_n11, s_n12, s_us, s_un, s_uLs, s_uLn, ↓reduceIte, not_false_eq_true, not_true_eq_false, true_and, and_true, and_self, or_false, false_or, or_self, true_or, or_true, false_and, and_false, Int32.neg_neg, Nat.add_zero, Nat.zero_add, Nat.reduceSub, Nat.reduceAdd, Nat.reduceMul, Nat.reduceLeDiff, a, C1, ofhV]
  · simp (disch := omega) only [s_lit, s_b0, s_b1, s_b2, s_b3, s_b4, s_b5, s_b6, s_x0, s_x0l, s_t1, s_nm, s_ckT, s_ld, s_st, s_clamp, nI_add, pk_mul, s_sub, s_nad, s_div, s_mod, s_rem2, s_le_t, s_le_f, s_lt_t, s_lt_f, s_eq_t, s_eq_f, s_n1, s_n2, s_n3, s_n4, s_n5, s_n6, s_n7, s_n8, s_n9, s_n10, s_n11, s_n12, s_us, s_un, s_uLs, s_uLn, ↓reduceIte, not_false_eq_true, not_true_eq_false, true_and, and_true, and_self, or_false, false_or, or_self, true_or, or_true, false_and, and_false, Int32.neg_neg, Nat.add_zero, Nat.zero_add, Nat.reduceSub, Nat.reduceAdd, Nat.reduceMul, Nat.reduceLeDiff, a, C2, ofhV]
  · simp (disch := omega) only [s_lit, s_b0, s_b1, s_b2, s_b3, s_b4, s_b5, s_b6, s_x0, s_x0l, s_t1, s_nm, s_ckT, s_ld, s_st, s_clamp, nI_add, pk_mul, s_sub, s_nad, s_div, s_mod, s_rem2, s_le_t, s_le_f, s_lt_t, s_lt_f, s_eq_t, s_eq_f, s_n1, s_n2, s_n3, s_n4, s_n5, s_n6, s_n7, s_n8, s_n9, s_n10, s_n11, s_n12, s_us, s_un, s_uLs, s_uLn, ↓reduceIte, not_false_eq_true, not_true_eq_false, true_and, and_true, and_self, or_false, false_or, or_self, true_or, or_true, false_and, and_false, Int32.neg_neg, Nat.add_zero, Nat.zero_add, Nat.reduceSub, Nat.reduceAdd, Nat.reduceMul, Nat.reduceLeDiff, a, ofhV]
  · simp (disch := omega) only [s_lit, s_b0, s_b1, s_b2, s_b3, s_b4, s_b5, s_b6, s_x0, s_x0l, s_t1, s_nm, s_ckT, s_ld, s_st, s_clamp, nI_add, pk_mul, s_sub, s_nad, s_div, s_mod, s_rem2, s_le_t, s_le_f, s_lt_t, s_lt_f, s_eq_t, s_eq_f, s_n1, s_n2, s_n3, s_n4, s_n5, s_n6, s_n7, s_n8, s_n9, s_n10, s_n11, s_n12, s_us, s_un, s_uLs, s_uLn, ↓reduceIte, not_false_eq_true, not_true_eq_false, true_and, and_true, and_self, or_false, false_or, or_self, true_or, or_true, false_and, and_false, Int32.neg_neg, Nat.add_zero, Nat.zero_add, Nat.reduceSub, Nat.reduceAdd, Nat.reduceMul, Nat.reduceLeDiff, a, v2, ofhV]
    rfl
  · simp (disch := omega) only [s_lit, s_b0, s_b1, s_b2, s_b3, s_b4, s_b5, s_b6, s_x0, s_x0l, s_t1, s_nm, s_ckT, s_ld, s_st, s_clamp, nI_add, pk_mul, s_sub, s_nad, s_div, s_mod, s_rem2, s_le_t, s_le_f, s_lt_t, s_lt_f, s_eq_t, s_eq_f, s_n1, s_n2, s_n3, s_n4, s_n5, s_n6, s_n7, s_n8, s_n9, s_n10, s_n11, s_n12, s_us, s_un, s_uLs, s_uLn, ↓reduceIte, not_false_eq_true, not_true_eq_false, true_and, and_true, and_self, or_false, false_or, or_self, true_or, or_true, false_and, and_false, Int32.neg_neg, Nat.add_zero, Nat.zero_add, Nat.reduceSub, Nat.reduceAdd, Nat.reduceMul, Nat.reduceLeDiff, a, v3, ofhV]
    rfl
/-! the law's own checksum -/
theorem z_v_in {F : Nat → Int32} {k nc : Nat} (hF : ∀ j, j < 7 → X10_ofGuest G (nI k) (nI j) = some (F j)) (kont : Int64 → Int32 → Nat → Option Int64) (u : Int64) : ∀ (fuel j : Nat) (v : Int64), 7 - j < fuel → j ≤ 7 → v = fo F j u → X10_checksum_L137 G kont fuel v (nI k) (nI j) nc = kont (fo F 7 u) (nI (k + 1)) nc := by
  intro fuel
  induction fuel with
  | zero => intro j v h1; omega
  | succ fuel ih =>
    intro j v h1 h2 hv
    rw [X10_checksum_L137]
    by_cases cj : j = 7
    · subst cj hv
      rw [if_pos (show (7 : Int32) ≤ nI 7 from Int32.le_refl _), s_nm, show (1 : Int32) = nI 1 from rfl, nI_add]
    · rw [if_neg (show ¬ (7 : Int32) ≤ nI j from nI_ge (a := j) (b := 7) (by omega) (by decide)), hF j (by omega), q_bn1, s_nm, s_nm, show (1 : Int32) = nI 1 from rfl, nI_add]
      exact ih (j + 1) _ (by omega) (by omega) (by rw [hv]; rfl)
theorem z_v_out (z4 : shZ G 4 = V) {F : Nat → Nat → Int32} {nc : Nat} (hC : V ≤ 20) (hF : ∀ k, k < V → ∀ j, j < 7 → X10_ofGuest G (nI k) (nI j) = some (F k j)) (u : Int64) : ∀ (fuel k : Nat) (v : Int64), V - k < fuel → k ≤ V → v = fo2 F 7 k u → X10_checksum_L125 G fuel v (nI k) nc = some (fo2 F 7 V u) := by
  intro fuel
  induction fuel with
  | zero => intro k v h1; omega
  | succ fuel ih =>
    intro k v h1 h2 hv
    rw [X10_checksum_L125, z4]
    by_cases ck : k = V
    · subst ck hv
      rw [if_pos (Int32.le_refl _)]
    · rw [if_neg (nI_ge (by omega) (by omega))]
      exact (z_v_in (hF k (by omega)) (fun z0 z1 z2 => X10_checksum_L125 G fuel z0 z1 z2) v FU 0 v (by unfold FU; omega) (Nat.zero_le _) rfl).trans (ih (k + 1) _ (by omega) (by omega) (by rw [hv]; rfl))
theorem z_h_in {F : Nat → Int32} {k : Nat} (hF : ∀ j, j < 5 → X10_ofHole G (nI k) (nI j) = some (F j)) (kont : Int64 → Int32 → Nat → Option Int64) (u : Int64) : ∀ (fuel j nc : Nat) (v : Int64), 5 - j < fuel → j ≤ 5 → nc + (5 - j) ≤ 20 → v = fo F j u → X10_checksum_L90 G kont fuel v (nI k) (nI j) nc = kont (fo F 5 u) (nI (k + 1)) (nc + (5 - j)) := by
  intro fuel
  induction fuel with
  | zero => intro j nc v h1; omega
  | succ fuel ih =>
    intro j nc v h1 h2 h3 hv
    rw [X10_checksum_L90]
    by_cases cj : j = 5
    · subst cj hv
      rw [if_pos (show (5 : Int32) ≤ nI 5 from Int32.le_refl _), s_nm, show (1 : Int32) = nI 1 from rfl, nI_add]; rfl
    · rw [if_neg (show ¬ (5 : Int32) ≤ nI j from nI_ge (a := j) (b := 5) (by omega) (by decide)), hF j (by omega), q_bn1, q_ck (by omega), s_nm, s_nm, s_nm, show (1 : Int32) = nI 1 from rfl, nI_add]
      refine (ih (j + 1) (nc + 1) _ (by omega) (by omega) (by omega) (by rw [hv]; rfl)).trans ?_
      rw [show nc + 1 + (5 - (j + 1)) = nc + (5 - j) by omega]
theorem z_h_out (z3 : shZ G 3 = HN) {F : Nat → Nat → Int32} (hC : HN ≤ 4) (hF : ∀ k, k < HN → ∀ j, j < 5 → X10_ofHole G (nI k) (nI j) = some (F k j)) (u : Int64) : ∀ (fuel k nc : Nat) (v : Int64), HN - k < fuel → k ≤ HN → nc = 5 * k → v = fo2 F 5 k u → X10_checksum_L78 G fuel v (nI k) nc = X10_checksum_L125 G FU (fo2 F 5 HN u) (nI 0) (5 * HN) := by
  intro fuel
  induction fuel with
  | zero => intro k nc v h1; omega
  | succ fuel ih =>
    intro k nc v h1 h2 hn hv
    rw [X10_checksum_L78, z3]
    by_cases ck : k = HN
    · subst ck hv hn
      rw [if_pos (Int32.le_refl _)]; rfl
    · rw [if_neg (nI_ge (by omega) (by omega))]
      exact (z_h_in (hF k (by omega)) (fun z0 z1 z2 => X10_checksum_L78 G fuel z0 z1 z2) v FU 0 nc v (by unfold FU; omega) (Nat.zero_le _) (by omega) rfl).trans (ih (k + 1) _ _ (by omega) (by omega) (by omega) (by rw [hv]; rfl))
theorem z_p_in {F : Nat → Int32} {k nc : Nat} (hF : ∀ j, j < 3 → X10_ofPlane G (nI k) (nI j) = some (F j)) (kont : Int64 → Int32 → Nat → Option Int64) (u : Int64) : ∀ (fuel j : Nat) (v : Int64), 3 - j < fuel → j ≤ 3 → v = fo F j u → X10_checksum_L43 G kont fuel v (nI k) (nI j) nc = kont (fo F 3 u) (nI (k + 1)) nc := by
  intro fuel
  induction fuel with
  | zero => intro j v h1; omega
  | succ fuel ih =>
    intro j v h1 h2 hv
    rw [X10_checksum_L43]
    by_cases cj : j = 3
    · subst cj hv
      rw [if_pos (show (3 : Int32) ≤ nI 3 from Int32.le_refl _), s_nm, show (1 : Int32) = nI 1 from rfl, nI_add]
    · rw [if_neg (show ¬ (3 : Int32) ≤ nI j from nI_ge (a := j) (b := 3) (by omega) (by decide)), hF j (by omega), q_bn1, s_nm, s_nm, show (1 : Int32) = nI 1 from rfl, nI_add]
      exact ih (j + 1) _ (by omega) (by omega) (by rw [hv]; rfl)
theorem z_p_out (z2 : shZ G 2 = n) {F : Nat → Nat → Int32} (hC : n ≤ 5) (hF : ∀ k, k < n → ∀ j, j < 3 → X10_ofPlane G (nI k) (nI j) = some (F k j)) (u : Int64) : ∀ (fuel k : Nat) (v : Int64), n - k < fuel → k ≤ n → v = fo2 F 3 k u → X10_checksum_L31 G fuel v (nI k) 0 = X10_checksum_L78 G FU (fo2 F 3 n u) (nI 0) 0 := by
  intro fuel
  induction fuel with
  | zero => intro k v h1; omega
  | succ fuel ih =>
    intro k v h1 h2 hv
    rw [X10_checksum_L31, z2]
    by_cases ck : k = n
    · subst ck hv
      rw [if_pos (Int32.le_refl _)]; rfl
    · rw [if_neg (nI_ge (by omega) (by omega))]
      exact (z_p_in (hF k (by omega)) (fun z0 z1 z2 => X10_checksum_L31 G fuel z0 z1 z2) v FU 0 v (by unfold FU; omega) (Nat.zero_le _) rfl).trans (ih (k + 1) _ (by omega) (by omega) (by rw [hv]; rfl))
theorem z_s {F : Nat → Int32} (hF : ∀ j, j < 14 → X10_told G (nI j) = some (F j)) (u : Int64) : ∀ (fuel j : Nat) (v : Int64), 14 - j < fuel → j ≤ 14 → v = fo F j u → X10_checksum_L4 G fuel v (nI j) 0 = X10_checksum_L31 G FU (fo F 14 u) (nI 0) 0 := by
  intro fuel
  induction fuel with
  | zero => intro j v h1; omega
  | succ fuel ih =>
    intro j v h1 h2 hv
    rw [X10_checksum_L4]
    by_cases cj : j = 14
    · subst cj hv
      rw [if_pos (show (14 : Int32) ≤ nI 14 from Int32.le_refl _)]; rfl
    · rw [if_neg (show ¬ (14 : Int32) ≤ nI j from nI_ge (a := j) (b := 14) (by omega) (by decide)), hF j (by omega), q_bn1, s_nm, s_nm, show (1 : Int32) = nI 1 from rfl, nI_add]
      exact ih (j + 1) _ (by omega) (by omega) (by rw [hv]; rfl)
theorem y_checksum (N : ShowN w h n HN sz V LL rc pull hx hy cells pulls holeX holeY codes ti lk fa d) {seen counts kinds depths : Nat → Int32} (Vw : VOK w h n HN cells pull hx hy seen counts kinds depths) (M : NG G w h n HN V LL rc pull hx hy cells ti fa) : ∃ v, X6_checksum (nI w) (nI h) (nI n) (nI HN) (nI rc) cells pulls holeX holeY (nI V) (nI LL) ti lk fa seen kinds depths = some v ∧ X10_checksum G = some v := by
  have g1 := fun j (hj : j < 14) => y_state N hj
  have g2 := fun k (hk : k < n) j (hj : j < 3) => y_plane N Vw hk hj
  have g3 := fun k (hk : k < HN) j (hj : j < 5) => y_hole N Vw hk hj
  have g4 := fun k (hk : k < V) j (hj : j < 7) => (t_viewer N hk (show j ≤ 6 by omega)).1
  obtain ⟨⟨S, B, C, R⟩, -, ⟨b1, b2, b3, b4, b5⟩, ⟨d4, d5, d6, d7⟩, I, VR⟩ := N
  refine ⟨fo2 (fun k j => fa (k * 7 + j)) 7 V (fo2 (fun k j => ofhV w h n cells pull hx hy lk k j) 5 HN (fo2 (fun p j => ofpV w h n HN cells pull hx hy p j) 3 n (fo (fun i => toldV w h n HN V LL rc ti fa (cntN (fun k => decide (lk k = -nI 1)) HN) i) 14 0))), ?_, ?_⟩
  · unfold X6_checksum
    refine (k_s g1 0 FU 0 0 (by unfold FU; omega) (Nat.zero_le _) rfl).trans ?_
    refine (k_p_out S.2.2.1.2 g2 _ FU 0 _ (by have := S.2.2.1.2; unfold FU; omega) (Nat.zero_le _) (fo2_z _ _ _).symm).trans ?_
    refine (k_h_out S.2.2.2.1 g3 _ FU 0 _ (by have := S.2.2.2.1; unfold FU; omega) (Nat.zero_le _) (fo2_z _ _ _).symm).trans ?_
    exact k_v_out b3 g4 _ FU 0 _ (by unfold FU; omega) (Nat.zero_le _) (fo2_z _ _ _).symm
  · unfold X10_checksum
    refine (z_s (fun j hj => x_told M b3 I S.2.2.2.1 hj) 0 FU 0 0 (by unfold FU; omega) (Nat.zero_le _) rfl).trans ?_
    refine (z_p_out M.1.2.2.1 S.2.2.1.2 (fun k hk j hj => x_ofPlane M S B hk hj) _ FU 0 _ (by have := S.2.2.1.2; unfold FU; omega) (Nat.zero_le _) (fo2_z _ _ _).symm).trans ?_
    refine (z_h_out M.1.2.2.2.1 S.2.2.2.1 (fun k hk j hj => x_ofHole M S B b3 I hk hj) _ FU 0 0 _ (by have := S.2.2.2.1; unfold FU; omega) (Nat.zero_le _) rfl (fo2_z _ _ _).symm).trans ?_
    exact z_v_out M.1.2.2.2.2 b3 (fun k hk j hj => x_ofGuest M b3 hk hj) _ FU 0 _ (by unfold FU; omega) (Nat.zero_le _) (fo2_z _ _ _).symm
end XE
/-- the term's nodes, operands first: 0 and a number, 1 and a variable, 2 to 5 an operation -/
def pfx (K : Nat → Nat) (N : Nat → Int32) : Nat → Nat → List Int32
  | 0, _ => []
  | d + 1, i => if K i < 2 then [nI (K i), N i] else pfx K N d (2 * i) ++ pfx K N d (2 * i + 1) ++ [nI (K i)]
/-- the price, in the reference's row -/
def PX (d : Nat → Int32) (G : LG) : Prop := (shZ G 5 = 0 ∧ d 8 = nI 0) ∨ (shZ G 5 ≠ 0 ∧ d 8 = nI 1 ∧ d 9 = nI (pfx (shK G) (shN G) 3 1).length ∧ (∀ j, j < (pfx (shK G) (shN G) 3 1).length → d (643 + j) = (pfx (shK G) (shN G) 3 1).getD j 0) ∧ ndLeaf (shK G) ∧ ndG (shK G) (shN G))
/-- the show G as the reference's row of data -/
def DG (d : Nat → Int32) (G : LG) : Prop :=
  (d 0 = nI (shZ G 0) ∧ d 1 = nI (shZ G 1) ∧ d 2 = nI (shZ G 2) ∧ d 3 = nI (shZ G 3) ∧ d 7 = nI (shZ G 4)) ∧ (shZ G 0 ≤ 12 ∧ shZ G 1 ≤ 8 ∧ shZ G 2 ≤ 5 ∧ shZ G 3 ≤ 4 ∧ shZ G 4 ≤ 20) ∧ (d 4 = shI G 0 ∧ d 5 = shI G 1 ∧ d 6 = shI G 2) ∧ (∀ p, p < shZ G 2 → d (10 + p) = shP G p) ∧
  (∀ p, p < shZ G 2 → ∀ y, y < shZ G 1 → (shT G p y).length = shZ G 0 ∧ ∀ x, x < shZ G 0 → (shT G p y).getD x 0 = chC (d (15 + 96 * p + shZ G 0 * y + x))) ∧ (∀ k, k < shZ G 3 → d (495 + 2 * k) = shH G k 0 ∧ d (495 + 2 * k + 1) = shH G k 1) ∧ (∀ v, v < shZ G 4 → ∀ j, j < 7 → d (503 + 7 * v + j) = shG G v j) ∧ PX d G
theorem NG_of {G : LG} {w h n HN sz V LL rc : Nat} {pull hx hy : Nat → Nat} {cells pulls holeX holeY codes : Nat → Int32} {ti : Int32} {lk fa d : Nat → Int32} (N : ShowN w h n HN sz V LL rc pull hx hy cells pulls holeX holeY codes ti lk fa d) (D : DG d G) : NG G w h n HN V LL rc pull hx hy cells ti fa := by
  obtain ⟨⟨S, B, C, R0, R1, R2, R3, R4, R5, R6⟩, -, ⟨b1, b2, b3, b4, b5⟩, ⟨d4, d5, d6, d7⟩, I, VR⟩ := N
  obtain ⟨⟨g0, g1, g2, g3, g7⟩, ⟨l0, l1, l2, l3, l4⟩, ⟨i0, i1, i2⟩, gP, gT, gH, gG, -⟩ := D
  obtain ⟨⟨sw0, sw⟩, ⟨sh0, sh⟩, ⟨sn0, sn⟩, sH, -, -⟩ := S
  have z0 : shZ G 0 = w := ((nI_eq (by omega) (by omega)).mp (R0.symm.trans g0)).symm
  have z1 : shZ G 1 = h := ((nI_eq (by omega) (by omega)).mp (R1.symm.trans g1)).symm
  have z2 : shZ G 2 = n := ((nI_eq (by omega) (by omega)).mp (R2.symm.trans g2)).symm
  have z3 : shZ G 3 = HN := ((nI_eq (by omega) (by omega)).mp (R3.symm.trans g3)).symm
  have z4 : shZ G 4 = V := ((nI_eq (by omega) (by omega)).mp (d7.symm.trans g7)).symm
  rw [z2] at gP gT
  rw [z1, z0] at gT
  rw [z3] at gH
  rw [z4] at gG
  refine ⟨⟨z0, z1, z2, z3, z4⟩, ⟨i0.symm.trans d4, i1.symm.trans d5, i2.symm.trans d6⟩, fun p hp => (gP p hp).symm.trans (R4 p hp), fun p hp y hy => ⟨(gT p hp y hy).1, fun x hx => ?_⟩, fun k hk => ⟨(gH k hk).1.symm.trans (R6 k hk).1, (gH k hk).2.symm.trans (R6 k hk).2⟩, fun v hv j hj => (gG v hv j hj).symm.trans (VR v hv j hj)⟩
  rw [(gT p hp y hy).2 x hx, R5 p hp y hy x hx]
theorem y_Agr {st : St} {rf : Rf} {G : LG} (R : RAll st rf) (D : DG (Rf.data rf) G) : Agr st G := by
  obtain ⟨⟨w, h, n, HN, sz, V, LL, rc, pull, hx, hy, e1, e2, e3, e4, e5, e6, e7, e8, N, Vw, P⟩, -⟩ := R
  have M := NG_of N D
  obtain ⟨v, h1, h2⟩ := y_checksum N Vw M
  obtain ⟨⟨S, B, C, Q⟩, -, ⟨b1, b2, b3, b4, b5⟩, -, I, -⟩ := id N
  have sn := S.2.2.1
  have sH := S.2.2.2.1
  obtain ⟨z0, z1, z2, z3, z4⟩ := M.1
  unfold Agr
  simp only [e1, e2, e3, e4, e5, e6, e7, e8, z2, z3, z4]
  refine ⟨v, h1, h2, ?_, ?_, ?_, ?_, fun i hi => ⟨_, y_state N hi, x_told M b3 I sH hi⟩⟩
  · unfold X6_state
    simp (disch := omega) only [s_lit, s_b0, s_b1, s_b2, s_b3, s_b4, s_b5, s_b6, s_x0, s_x0l, s_t1, s_nm, s_ckT, s_ld, s_st, s_clamp, nI_add, pk_mul, s_sub, s_nad, s_div, s_mod, s_rem2, s_le_t, s_le_f, s_lt_t, s_lt_f, s_eq_t, s_eq_f, s_n1, s_n2, s_n3, s_n4, s_n5, s_n6, s_n7, s_n8, s_n9, s_n10, s_n11, s_n12, s_us, s_un, s_uLs, s_uLn, ↓reduceIte, not_false_eq_true, not_true_eq_false, true_and, and_true, and_self, or_false, false_or, or_self, true_or, or_true, false_and, and_false, Int32.neg_neg, Nat.add_zero, Nat.zero_add, Nat.reduceSub, Nat.reduceAdd, Nat.reduceMul, Nat.reduceLeDiff]
  · have a : X6_requirePlane (nI n) (nI n) = some (.inl 1) := by
      unfold X6_requirePlane
      simp (disch := omega) only [s_lit, s_b0, s_b1, s_b2, s_b3, s_b4, s_b5, s_b6, s_x0, s_x0l, s_t1, s_nm, s_ckT, s_ld, s_st, s_clamp, nI_add, pk_mul, s_sub, s_nad, s_div, s_mod, s_rem2, s_le_t, s_le_f, s_lt_t, s_lt_f, s_eq_t, s_eq_f, s_n1, s_n2, s_n3, s_n4, s_n5, s_n6, s_n7, s_n8, s_n9, s_n10, s_n11, s_n12, s_us, s_un, s_uLs, s_uLn, ↓reduceIte, not_false_eq_true, not_true_eq_false, true_and, and_true, and_self, or_false, false_or, or_self, true_or, or_true, false_and, and_false, Int32.neg_neg, Nat.add_zero, Nat.zero_add, Nat.reduceSub, Nat.reduceAdd, Nat.reduceMul, Nat.reduceLeDiff, X6_requirePlane_J18]
    unfold X6_plane
    simp (disch := omega) only [s_lit, s_b0, s_b1, s_b2, s_b3, s_b4, s_b5, s_b6, s_x0, s_x0l, s_t1, s_nm, s_ckT, s_ld, s_st, s_clamp, nI_add, pk_mul, s_sub, s_nad, s_div, s_mod, s_rem2, s_le_t, s_le_f, s_lt_t, s_lt_f, s_eq_t, s_eq_f, s_n1, s_n2, s_n3, s_n4, s_n5, s_n6, s_n7, s_n8, s_n9, s_n10, s_n11, s_n12, s_us, s_un, s_uLs, s_uLn, ↓reduceIte, not_false_eq_true, not_true_eq_false, true_and, and_true, and_self, or_false, false_or, or_self, true_or, or_true, false_and, and_false, Int32.neg_neg, Nat.add_zero, Nat.zero_add, Nat.reduceSub, Nat.reduceAdd, Nat.reduceMul, Nat.reduceLeDiff, a]
  · have a : X6_requireHole (nI HN) (nI HN) = some (.inl 1) := by
      unfold X6_requireHole
      simp (disch := omega) only [s_lit, s_b0, s_b1, s_b2, s_b3, s_b4, s_b5, s_b6, s_x0, s_x0l, s_t1, s_nm, s_ckT, s_ld, s_st, s_clamp, nI_add, pk_mul, s_sub, s_nad, s_div, s_mod, s_rem2, s_le_t, s_le_f, s_lt_t, s_lt_f, s_eq_t, s_eq_f, s_n1, s_n2, s_n3, s_n4, s_n5, s_n6, s_n7, s_n8, s_n9, s_n10, s_n11, s_n12, s_us, s_un, s_uLs, s_uLn, ↓reduceIte, not_false_eq_true, not_true_eq_false, true_and, and_true, and_self, or_false, false_or, or_self, true_or, or_true, false_and, and_false, Int32.neg_neg, Nat.add_zero, Nat.zero_add, Nat.reduceSub, Nat.reduceAdd, Nat.reduceMul, Nat.reduceLeDiff, X6_requireHole_J18]
    unfold X6_hole
    simp (disch := omega) only [s_lit, s_b0, s_b1, s_b2, s_b3, s_b4, s_b5, s_b6, s_x0, s_x0l, s_t1, s_nm, s_ckT, s_ld, s_st, s_clamp, nI_add, pk_mul, s_sub, s_nad, s_div, s_mod, s_rem2, s_le_t, s_le_f, s_lt_t, s_lt_f, s_eq_t, s_eq_f, s_n1, s_n2, s_n3, s_n4, s_n5, s_n6, s_n7, s_n8, s_n9, s_n10, s_n11, s_n12, s_us, s_un, s_uLs, s_uLn, ↓reduceIte, not_false_eq_true, not_true_eq_false, true_and, and_true, and_self, or_false, false_or, or_self, true_or, or_true, false_and, and_false, Int32.neg_neg, Nat.add_zero, Nat.zero_add, Nat.reduceSub, Nat.reduceAdd, Nat.reduceMul, Nat.reduceLeDiff, a]
  · have a : X6_requireViewer (nI V) (nI V) = some (.inl 1) := by
      unfold X6_requireViewer
      simp (disch := omega) only [s_lit, s_b0, s_b1, s_b2, s_b3, s_b4, s_b5, s_b6, s_x0, s_x0l, s_t1, s_nm, s_ckT, s_ld, s_st, s_clamp, nI_add, pk_mul, s_sub, s_nad, s_div, s_mod, s_rem2, s_le_t, s_le_f, s_lt_t, s_lt_f, s_eq_t, s_eq_f, s_n1, s_n2, s_n3, s_n4, s_n5, s_n6, s_n7, s_n8, s_n9, s_n10, s_n11, s_n12, s_us, s_un, s_uLs, s_uLn, ↓reduceIte, not_false_eq_true, not_true_eq_false, true_and, and_true, and_self, or_false, false_or, or_self, true_or, or_true, false_and, and_false, Int32.neg_neg, Nat.add_zero, Nat.zero_add, Nat.reduceSub, Nat.reduceAdd, Nat.reduceMul, Nat.reduceLeDiff, X6_requireViewer_J18]
    unfold X6_viewer
    simp (disch := omega) only [s_lit, s_b0, s_b1, s_b2, s_b3, s_b4, s_b5, s_b6, s_x0, s_x0l, s_t1, s_nm, s_ckT, s_ld, s_st, s_clamp, nI_add, pk_mul, s_sub, s_nad, s_div, s_mod, s_rem2, s_le_t, s_le_f, s_lt_t, s_lt_f, s_eq_t, s_eq_f, s_n1, s_n2, s_n3, s_n4, s_n5, s_n6, s_n7, s_n8, s_n9, s_n10, s_n11, s_n12, s_us, s_un, s_uLs, s_uLn, ↓reduceIte, not_false_eq_true, not_true_eq_false, true_and, and_true, and_self, or_false, false_or, or_self, true_or, or_true, false_and, and_false, Int32.neg_neg, Nat.add_zero, Nat.zero_add, Nat.reduceSub, Nat.reduceAdd, Nat.reduceMul, Nat.reduceLeDiff, a]
