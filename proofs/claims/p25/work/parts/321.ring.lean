/-! PHASE 2: what was before: the ring of the class, the rows of the reference -/
def hsel (r0 r1 r2 r3 r4 r5 r6 r7 : Nat → Int32) (k : Nat) : Nat → Int32 := match k with
  | 0 => r0
  | 1 => r1
  | 2 => r2
  | 3 => r3
  | 4 => r4
  | 5 => r5
  | 6 => r6
  | _ => r7
theorem s_rw0 {β : Type} (a0 a1 a2 a3 a4 a5 a6 a7 : Option β) : rw8 0 a0 a1 a2 a3 a4 a5 a6 a7 = a0 := rfl
theorem s_rw1 {β : Type} (a0 a1 a2 a3 a4 a5 a6 a7 : Option β) : rw8 1 a0 a1 a2 a3 a4 a5 a6 a7 = a1 := rfl
theorem s_rw2 {β : Type} (a0 a1 a2 a3 a4 a5 a6 a7 : Option β) : rw8 2 a0 a1 a2 a3 a4 a5 a6 a7 = a2 := rfl
theorem s_rw3 {β : Type} (a0 a1 a2 a3 a4 a5 a6 a7 : Option β) : rw8 3 a0 a1 a2 a3 a4 a5 a6 a7 = a3 := rfl
theorem s_rw4 {β : Type} (a0 a1 a2 a3 a4 a5 a6 a7 : Option β) : rw8 4 a0 a1 a2 a3 a4 a5 a6 a7 = a4 := rfl
theorem s_rw5 {β : Type} (a0 a1 a2 a3 a4 a5 a6 a7 : Option β) : rw8 5 a0 a1 a2 a3 a4 a5 a6 a7 = a5 := rfl
theorem s_rw6 {β : Type} (a0 a1 a2 a3 a4 a5 a6 a7 : Option β) : rw8 6 a0 a1 a2 a3 a4 a5 a6 a7 = a6 := rfl
theorem s_rw7 {β : Type} (a0 a1 a2 a3 a4 a5 a6 a7 : Option β) : rw8 7 a0 a1 a2 a3 a4 a5 a6 a7 = a7 := rfl
theorem r_cp (f g : Nat → Int32) : X7_copy 2243 2243 f g (nI 2243) = some (cpN f g 2243) := r_copy rfl (by omega) (by omega) (by omega) (by omega) (by omega)
theorem r_rem53_0 (d r0 r1 r2 r3 r4 r5 r6 r7 : Nat → Int32) : X7_remember_J53 d (nI 0) r0 r1 r2 r3 r4 r5 r6 r7 = some (nI 1, cpN d r0 2243, r1, r2, r3, r4, r5, r6, r7) := by
  unfold X7_remember_J53
  simp (disch := omega) only [s_lit, s_b0, s_b1, s_b2, s_b3, s_b4, s_b5, s_b6, s_x0, s_x0l, s_t1, s_nm, s_ckT, s_ld, s_st, s_clamp, nI_add, pk_mul, s_sub, s_nad, s_div, s_mod, s_rem2, s_le_t, s_le_f, s_lt_t, s_lt_f, s_eq_t, s_eq_f, s_n1, s_n2, s_n3, s_n4, s_n5, s_n6, s_n7, s_n8, s_n9, s_n10, s_n11, s_n12, s_us, s_un, s_uLs, s_uLn, ↓reduceIte, not_false_eq_true, not_true_eq_false, true_and, and_true, and_self, or_false, false_or, or_self, true_or, or_true, false_and, and_false, Int32.neg_neg, Nat.add_zero, Nat.zero_add, Nat.reduceSub, Nat.reduceAdd, Nat.reduceMul, Nat.reduceLeDiff, s_rw0, r_cp]
theorem r_rem53_1 (d r0 r1 r2 r3 r4 r5 r6 r7 : Nat → Int32) : X7_remember_J53 d (nI 1) r0 r1 r2 r3 r4 r5 r6 r7 = some (nI 2, r0, cpN d r1 2243, r2, r3, r4, r5, r6, r7) := by
  unfold X7_remember_J53
  simp (disch := omega) only [s_lit, s_b0, s_b1, s_b2, s_b3, s_b4, s_b5, s_b6, s_x0, s_x0l, s_t1, s_nm, s_ckT, s_ld, s_st, s_clamp, nI_add, pk_mul, s_sub, s_nad, s_div, s_mod, s_rem2, s_le_t, s_le_f, s_lt_t, s_lt_f, s_eq_t, s_eq_f, s_n1, s_n2, s_n3, s_n4, s_n5, s_n6, s_n7, s_n8, s_n9, s_n10, s_n11, s_n12, s_us, s_un, s_uLs, s_uLn, ↓reduceIte, not_false_eq_true, not_true_eq_false, true_and, and_true, and_self, or_false, false_or, or_self, true_or, or_true, false_and, and_false, Int32.neg_neg, Nat.add_zero, Nat.zero_add, Nat.reduceSub, Nat.reduceAdd, Nat.reduceMul, Nat.reduceLeDiff, s_rw1, r_cp]
theorem r_rem53_2 (d r0 r1 r2 r3 r4 r5 r6 r7 : Nat → Int32) : X7_remember_J53 d (nI 2) r0 r1 r2 r3 r4 r5 r6 r7 = some (nI 3, r0, r1, cpN d r2 2243, r3, r4, r5, r6, r7) := by
  unfold X7_remember_J53
  simp (disch := omega) only [s_lit, s_b0, s_b1, s_b2, s_b3, s_b4, s_b5, s_b6, s_x0, s_x0l, s_t1, s_nm, s_ckT, s_ld, s_st, s_clamp, nI_add, pk_mul, s_sub, s_nad, s_div, s_mod, s_rem2, s_le_t, s_le_f, s_lt_t, s_lt_f, s_eq_t, s_eq_f, s_n1, s_n2, s_n3, s_n4, s_n5, s_n6, s_n7, s_n8, s_n9, s_n10, s_n11, s_n12, s_us, s_un, s_uLs, s_uLn, ↓reduceIte, not_false_eq_true, not_true_eq_false, true_and, and_true, and_self, or_false, false_or, or_self, true_or, or_true, false_and, and_false, Int32.neg_neg, Nat.add_zero, Nat.zero_add, Nat.reduceSub, Nat.reduceAdd, Nat.reduceMul, Nat.reduceLeDiff, s_rw2, r_cp]
theorem r_rem53_3 (d r0 r1 r2 r3 r4 r5 r6 r7 : Nat → Int32) : X7_remember_J53 d (nI 3) r0 r1 r2 r3 r4 r5 r6 r7 = some (nI 4, r0, r1, r2, cpN d r3 2243, r4, r5, r6, r7) := by
  unfold X7_remember_J53
  simp (disch := omega) only [s_lit, s_b0, s_b1, s_b2, s_b3, s_b4, s_b5, s_b6, s_x0, s_x0l, s_t1, s_nm, s_ckT, s_ld, s_st, s_clamp, nI_add, pk_mul, s_sub, s_nad, s_div, s_mod, s_rem2, s_le_t, s_le_f, s_lt_t, s_lt_f, s_eq_t, s_eq_f, s_n1, s_n2, s_n3, s_n4, s_n5, s_n6, s_n7, s_n8, s_n9, s_n10, s_n11, s_n12, s_us, s_un, s_uLs, s_uLn, ↓reduceIte, not_false_eq_true, not_true_eq_false, true_and, and_true, and_self, or_false, false_or, or_self, true_or, or_true, false_and, and_false, Int32.neg_neg, Nat.add_zero, Nat.zero_add, Nat.reduceSub, Nat.reduceAdd, Nat.reduceMul, Nat.reduceLeDiff, s_rw3, r_cp]
theorem r_rem53_4 (d r0 r1 r2 r3 r4 r5 r6 r7 : Nat → Int32) : X7_remember_J53 d (nI 4) r0 r1 r2 r3 r4 r5 r6 r7 = some (nI 5, r0, r1, r2, r3, cpN d r4 2243, r5, r6, r7) := by
  unfold X7_remember_J53
  simp (disch := omega) only [s_lit, s_b0, s_b1, s_b2, s_b3, s_b4, s_b5, s_b6, s_x0, s_x0l, s_t1, s_nm, s_ckT, s_ld, s_st, s_clamp, nI_add, pk_mul, s_sub, s_nad, s_div, s_mod, s_rem2, s_le_t, s_le_f, s_lt_t, s_lt_f, s_eq_t, s_eq_f, s_n1, s_n2, s_n3, s_n4, s_n5, s_n6, s_n7, s_n8, s_n9, s_n10, s_n11, s_n12, s_us, s_un, s_uLs, s_uLn, ↓reduceIte, not_false_eq_true, not_true_eq_false, true_and, and_true, and_self, or_false, false_or, or_self, true_or, or_true, false_and, and_false, Int32.neg_neg, Nat.add_zero, Nat.zero_add, Nat.reduceSub, Nat.reduceAdd, Nat.reduceMul, Nat.reduceLeDiff, s_rw4, r_cp]
theorem r_rem53_5 (d r0 r1 r2 r3 r4 r5 r6 r7 : Nat → Int32) : X7_remember_J53 d (nI 5) r0 r1 r2 r3 r4 r5 r6 r7 = some (nI 6, r0, r1, r2, r3, r4, cpN d r5 2243, r6, r7) := by
  unfold X7_remember_J53
  simp (disch := omega) only [s_lit, s_b0, s_b1, s_b2, s_b3, s_b4, s_b5, s_b6, s_x0, s_x0l, s_t1, s_nm, s_ckT, s_ld, s_st, s_clamp, nI_add, pk_mul, s_sub, s_nad, s_div, s_mod, s_rem2, s_le_t, s_le_f, s_lt_t, s_lt_f, s_eq_t, s_eq_f, s_n1, s_n2, s_n3, s_n4, s_n5, s_n6, s_n7, s_n8, s_n9, s_n10, s_n11, s_n12, s_us, s_un, s_uLs, s_uLn, ↓reduceIte, not_false_eq_true, not_true_eq_false, true_and, and_true, and_self, or_false, false_or, or_self, true_or, or_true, false_and, and_false, Int32.neg_neg, Nat.add_zero, Nat.zero_add, Nat.reduceSub, Nat.reduceAdd, Nat.reduceMul, Nat.reduceLeDiff, s_rw5, r_cp]
theorem r_rem53_6 (d r0 r1 r2 r3 r4 r5 r6 r7 : Nat → Int32) : X7_remember_J53 d (nI 6) r0 r1 r2 r3 r4 r5 r6 r7 = some (nI 7, r0, r1, r2, r3, r4, r5, cpN d r6 2243, r7) := by
  unfold X7_remember_J53
  simp (disch := omega) only [s_lit, s_b0, s_b1, s_b2, s_b3, s_b4, s_b5, s_b6, s_x0, s_x0l, s_t1, s_nm, s_ckT, s_ld, s_st, s_clamp, nI_add, pk_mul, s_sub, s_nad, s_div, s_mod, s_rem2, s_le_t, s_le_f, s_lt_t, s_lt_f, s_eq_t, s_eq_f, s_n1, s_n2, s_n3, s_n4, s_n5, s_n6, s_n7, s_n8, s_n9, s_n10, s_n11, s_n12, s_us, s_un, s_uLs, s_uLn, ↓reduceIte, not_false_eq_true, not_true_eq_false, true_and, and_true, and_self, or_false, false_or, or_self, true_or, or_true, false_and, and_false, Int32.neg_neg, Nat.add_zero, Nat.zero_add, Nat.reduceSub, Nat.reduceAdd, Nat.reduceMul, Nat.reduceLeDiff, s_rw6, r_cp]
theorem r_rem53_7 (d r0 r1 r2 r3 r4 r5 r6 r7 : Nat → Int32) : X7_remember_J53 d (nI 7) r0 r1 r2 r3 r4 r5 r6 r7 = some (nI 8, r0, r1, r2, r3, r4, r5, r6, cpN d r7 2243) := by
  unfold X7_remember_J53
  simp (disch := omega) only [s_lit, s_b0, s_b1, s_b2, s_b3, s_b4, s_b5, s_b6, s_x0, s_x0l, s_t1, s_nm, s_ckT, s_ld, s_st, s_clamp, nI_add, pk_mul, s_sub, s_nad, s_div, s_mod, s_rem2, s_le_t, s_le_f, s_lt_t, s_lt_f, s_eq_t, s_eq_f, s_n1, s_n2, s_n3, s_n4, s_n5, s_n6, s_n7, s_n8, s_n9, s_n10, s_n11, s_n12, s_us, s_un, s_uLs, s_uLn, ↓reduceIte, not_false_eq_true, not_true_eq_false, true_and, and_true, and_self, or_false, false_or, or_self, true_or, or_true, false_and, and_false, Int32.neg_neg, Nat.add_zero, Nat.zero_add, Nat.reduceSub, Nat.reduceAdd, Nat.reduceMul, Nat.reduceLeDiff, s_rw7, r_cp]
theorem r_rem11_1 (u : Int32) (d r0 r1 r2 r3 r4 r5 r6 r7 : Nat → Int32) (n : Nat) : X7_remember_L11 u d (n + 1) (nI 1) r0 r1 r2 r3 r4 r5 r6 r7 = X7_remember_L11 u d n (nI 2) (cpN r1 r0 2243) r1 r2 r3 r4 r5 r6 r7 := by
  rw [X7_remember_L11]
  simp (disch := omega) only [s_lit, s_b0, s_b1, s_b2, s_b3, s_b4, s_b5, s_b6, s_x0, s_x0l, s_t1, s_nm, s_ckT, s_ld, s_st, s_clamp, nI_add, pk_mul, s_sub, s_nad, s_div, s_mod, s_rem2, s_le_t, s_le_f, s_lt_t, s_lt_f, s_eq_t, s_eq_f, s_n1, s_n2, s_n3, s_n4, s_n5, s_n6, s_n7, s_n8, s_n9, s_n10, s_n11, s_n12, s_us, s_un, s_uLs, s_uLn, ↓reduceIte, not_false_eq_true, not_true_eq_false, true_and, and_true, and_self, or_false, false_or, or_self, true_or, or_true, false_and, and_false, Int32.neg_neg, Nat.add_zero, Nat.zero_add, Nat.reduceSub, Nat.reduceAdd, Nat.reduceMul, Nat.reduceLeDiff, s_rw1, s_rw0, r_cp]
theorem r_rem11_2 (u : Int32) (d r0 r1 r2 r3 r4 r5 r6 r7 : Nat → Int32) (n : Nat) : X7_remember_L11 u d (n + 1) (nI 2) r0 r1 r2 r3 r4 r5 r6 r7 = X7_remember_L11 u d n (nI 3) r0 (cpN r2 r1 2243) r2 r3 r4 r5 r6 r7 := by
  rw [X7_remember_L11]
  simp (disch := omega) only [s_lit, s_b0, s_b1, s_b2, s_b3, s_b4, s_b5, s_b6, s_x0, s_x0l, s_t1, s_nm, s_ckT, s_ld, s_st, s_clamp, nI_add, pk_mul, s_sub, s_nad, s_div, s_mod, s_rem2, s_le_t, s_le_f, s_lt_t, s_lt_f, s_eq_t, s_eq_f, s_n1, s_n2, s_n3, s_n4, s_n5, s_n6, s_n7, s_n8, s_n9, s_n10, s_n11, s_n12, s_us, s_un, s_uLs, s_uLn, ↓reduceIte, not_false_eq_true, not_true_eq_false, true_and, and_true, and_self, or_false, false_or, or_self, true_or, or_true, false_and, and_false, Int32.neg_neg, Nat.add_zero, Nat.zero_add, Nat.reduceSub, Nat.reduceAdd, Nat.reduceMul, Nat.reduceLeDiff, s_rw2, s_rw1, r_cp]
theorem r_rem11_3 (u : Int32) (d r0 r1 r2 r3 r4 r5 r6 r7 : Nat → Int32) (n : Nat) : X7_remember_L11 u d (n + 1) (nI 3) r0 r1 r2 r3 r4 r5 r6 r7 = X7_remember_L11 u d n (nI 4) r0 r1 (cpN r3 r2 2243) r3 r4 r5 r6 r7 := by
  rw [X7_remember_L11]
  simp (disch := omega) only [s_lit, s_b0, s_b1, s_b2, s_b3, s_b4, s_b5, s_b6, s_x0, s_x0l, s_t1, s_nm, s_ckT, s_ld, s_st, s_clamp, nI_add, pk_mul, s_sub, s_nad, s_div, s_mod, s_rem2, s_le_t, s_le_f, s_lt_t, s_lt_f, s_eq_t, s_eq_f, s_n1, s_n2, s_n3, s_n4, s_n5, s_n6, s_n7, s_n8, s_n9, s_n10, s_n11, s_n12, s_us, s_un, s_uLs, s_uLn, ↓reduceIte, not_false_eq_true, not_true_eq_false, true_and, and_true, and_self, or_false, false_or, or_self, true_or, or_true, false_and, and_false, Int32.neg_neg, Nat.add_zero, Nat.zero_add, Nat.reduceSub, Nat.reduceAdd, Nat.reduceMul, Nat.reduceLeDiff, s_rw3, s_rw2, r_cp]
theorem r_rem11_4 (u : Int32) (d r0 r1 r2 r3 r4 r5 r6 r7 : Nat → Int32) (n : Nat) : X7_remember_L11 u d (n + 1) (nI 4) r0 r1 r2 r3 r4 r5 r6 r7 = X7_remember_L11 u d n (nI 5) r0 r1 r2 (cpN r4 r3 2243) r4 r5 r6 r7 := by
  rw [X7_remember_L11]
  simp (disch := omega) only [s_lit, s_b0, s_b1, s_b2, s_b3, s_b4, s_b5, s_b6, s_x0, s_x0l, s_t1, s_nm, s_ckT, s_ld, s_st, s_clamp, nI_add, pk_mul, s_sub, s_nad, s_div, s_mod, s_rem2, s_le_t, s_le_f, s_lt_t, s_lt_f, s_eq_t, s_eq_f, s_n1, s_n2, s_n3, s_n4, s_n5, s_n6, s_n7, s_n8, s_n9, s_n10, s_n11, s_n12, s_us, s_un, s_uLs, s_uLn, ↓reduceIte, not_false_eq_true, not_true_eq_false, true_and, and_true, and_self, or_false, false_or, or_self, true_or, or_true, false_and, and_false, Int32.neg_neg, Nat.add_zero, Nat.zero_add, Nat.reduceSub, Nat.reduceAdd, Nat.reduceMul, Nat.reduceLeDiff, s_rw4, s_rw3, r_cp]
theorem r_rem11_5 (u : Int32) (d r0 r1 r2 r3 r4 r5 r6 r7 : Nat → Int32) (n : Nat) : X7_remember_L11 u d (n + 1) (nI 5) r0 r1 r2 r3 r4 r5 r6 r7 = X7_remember_L11 u d n (nI 6) r0 r1 r2 r3 (cpN r5 r4 2243) r5 r6 r7 := by
  rw [X7_remember_L11]
  simp (disch := omega) only [s_lit, s_b0, s_b1, s_b2, s_b3, s_b4, s_b5, s_b6, s_x0, s_x0l, s_t1, s_nm, s_ckT, s_ld, s_st, s_clamp, nI_add, pk_mul, s_sub, s_nad, s_div, s_mod, s_rem2, s_le_t, s_le_f, s_lt_t, s_lt_f, s_eq_t, s_eq_f, s_n1, s_n2, s_n3, s_n4, s_n5, s_n6, s_n7, s_n8, s_n9, s_n10, s_n11, s_n12, s_us, s_un, s_uLs, s_uLn, ↓reduceIte, not_false_eq_true, not_true_eq_false, true_and, and_true, and_self, or_false, false_or, or_self, true_or, or_true, false_and, and_false, Int32.neg_neg, Nat.add_zero, Nat.zero_add, Nat.reduceSub, Nat.reduceAdd, Nat.reduceMul, Nat.reduceLeDiff, s_rw5, s_rw4, r_cp]
theorem r_rem11_6 (u : Int32) (d r0 r1 r2 r3 r4 r5 r6 r7 : Nat → Int32) (n : Nat) : X7_remember_L11 u d (n + 1) (nI 6) r0 r1 r2 r3 r4 r5 r6 r7 = X7_remember_L11 u d n (nI 7) r0 r1 r2 r3 r4 (cpN r6 r5 2243) r6 r7 := by
  rw [X7_remember_L11]
  simp (disch := omega) only [s_lit, s_b0, s_b1, s_b2, s_b3, s_b4, s_b5, s_b6, s_x0, s_x0l, s_t1, s_nm, s_ckT, s_ld, s_st, s_clamp, nI_add, pk_mul, s_sub, s_nad, s_div, s_mod, s_rem2, s_le_t, s_le_f, s_lt_t, s_lt_f, s_eq_t, s_eq_f, s_n1, s_n2, s_n3, s_n4, s_n5, s_n6, s_n7, s_n8, s_n9, s_n10, s_n11, s_n12, s_us, s_un, s_uLs, s_uLn, ↓reduceIte, not_false_eq_true, not_true_eq_false, true_and, and_true, and_self, or_false, false_or, or_self, true_or, or_true, false_and, and_false, Int32.neg_neg, Nat.add_zero, Nat.zero_add, Nat.reduceSub, Nat.reduceAdd, Nat.reduceMul, Nat.reduceLeDiff, s_rw6, s_rw5, r_cp]
theorem r_rem11_7 (u : Int32) (d r0 r1 r2 r3 r4 r5 r6 r7 : Nat → Int32) (n : Nat) : X7_remember_L11 u d (n + 1) (nI 7) r0 r1 r2 r3 r4 r5 r6 r7 = X7_remember_L11 u d n (nI 8) r0 r1 r2 r3 r4 r5 (cpN r7 r6 2243) r7 := by
  rw [X7_remember_L11]
  simp (disch := omega) only [s_lit, s_b0, s_b1, s_b2, s_b3, s_b4, s_b5, s_b6, s_x0, s_x0l, s_t1, s_nm, s_ckT, s_ld, s_st, s_clamp, nI_add, pk_mul, s_sub, s_nad, s_div, s_mod, s_rem2, s_le_t, s_le_f, s_lt_t, s_lt_f, s_eq_t, s_eq_f, s_n1, s_n2, s_n3, s_n4, s_n5, s_n6, s_n7, s_n8, s_n9, s_n10, s_n11, s_n12, s_us, s_un, s_uLs, s_uLn, ↓reduceIte, not_false_eq_true, not_true_eq_false, true_and, and_true, and_self, or_false, false_or, or_self, true_or, or_true, false_and, and_false, Int32.neg_neg, Nat.add_zero, Nat.zero_add, Nat.reduceSub, Nat.reduceAdd, Nat.reduceMul, Nat.reduceLeDiff, s_rw7, s_rw6, r_cp]
theorem r_rem11_8 (d r0 r1 r2 r3 r4 r5 r6 r7 : Nat → Int32) (n : Nat) : X7_remember_L11 (nI 8) d (n + 1) (nI 8) r0 r1 r2 r3 r4 r5 r6 r7 = X7_remember_J53 d (nI 7) r0 r1 r2 r3 r4 r5 r6 r7 := by
  rw [X7_remember_L11]
  simp (disch := omega) only [s_lit, s_b0, s_b1, s_b2, s_b3, s_b4, s_b5, s_b6, s_x0, s_x0l, s_t1, s_nm, s_ckT, s_ld, s_st, s_clamp, nI_add, pk_mul, s_sub, s_nad, s_div, s_mod, s_rem2, s_le_t, s_le_f, s_lt_t, s_lt_f, s_eq_t, s_eq_f, s_n1, s_n2, s_n3, s_n4, s_n5, s_n6, s_n7, s_n8, s_n9, s_n10, s_n11, s_n12, s_us, s_un, s_uLs, s_uLn, ↓reduceIte, not_false_eq_true, not_true_eq_false, true_and, and_true, and_self, or_false, false_or, or_self, true_or, or_true, false_and, and_false, Int32.neg_neg, Nat.add_zero, Nat.zero_add, Nat.reduceSub, Nat.reduceAdd, Nat.reduceMul, Nat.reduceLeDiff]
theorem r_remember (d r0 r1 r2 r3 r4 r5 r6 r7 : Nat → Int32) {u : Nat} (hu : u ≤ 8) : ∃ q0 q1 q2 q3 q4 q5 q6 q7, X7_remember (nI u) d r0 r1 r2 r3 r4 r5 r6 r7 = some (nI (min (u + 1) 8), q0, q1, q2, q3, q4, q5, q6, q7) ∧ ∀ k, k < min (u + 1) 8 → ∀ j, j < 2243 → hsel q0 q1 q2 q3 q4 q5 q6 q7 k j = (if k + 1 = min (u + 1) 8 then d j else hsel r0 r1 r2 r3 r4 r5 r6 r7 (if u = 8 then k + 1 else k) j) := by
  rcases (show u = 0 ∨ u = 1 ∨ u = 2 ∨ u = 3 ∨ u = 4 ∨ u = 5 ∨ u = 6 ∨ u = 7 ∨ u = 8 by omega) with e | e | e | e | e | e | e | e | e <;> subst e
  · refine ⟨cpN d r0 2243, r1, r2, r3, r4, r5, r6, r7, ?_, fun k hk j hj => ?_⟩
    · unfold X7_remember
      exact (if_neg (show ¬ nI 0 = 8 from by decide +kernel)).trans (r_rem53_0 d r0 r1 r2 r3 r4 r5 r6 r7)
    · have hk : k < 1 := hk
      rw [show k = 0 by omega]
      exact (if_pos hj).trans (if_pos rfl).symm
  · refine ⟨r0, cpN d r1 2243, r2, r3, r4, r5, r6, r7, ?_, fun k hk j hj => ?_⟩
    · unfold X7_remember
      exact (if_neg (show ¬ nI 1 = 8 from by decide +kernel)).trans (r_rem53_1 d r0 r1 r2 r3 r4 r5 r6 r7)
    · have hk : k < 2 := hk
      rcases (show k = 0 ∨ k = 1 by omega) with e | e <;> subst e
      · exact (if_neg (by decide)).symm
      · exact (if_pos hj).trans (if_pos rfl).symm
  · refine ⟨r0, r1, cpN d r2 2243, r3, r4, r5, r6, r7, ?_, fun k hk j hj => ?_⟩
    · unfold X7_remember
      exact (if_neg (show ¬ nI 2 = 8 from by decide +kernel)).trans (r_rem53_2 d r0 r1 r2 r3 r4 r5 r6 r7)
    · have hk : k < 3 := hk
      rcases (show k = 0 ∨ k = 1 ∨ k = 2 by omega) with e | e | e <;> subst e
      · exact (if_neg (by decide)).symm
      · exact (if_neg (by decide)).symm
      · exact (if_pos hj).trans (if_pos rfl).symm
  · refine ⟨r0, r1, r2, cpN d r3 2243, r4, r5, r6, r7, ?_, fun k hk j hj => ?_⟩
    · unfold X7_remember
      exact (if_neg (show ¬ nI 3 = 8 from by decide +kernel)).trans (r_rem53_3 d r0 r1 r2 r3 r4 r5 r6 r7)
    · have hk : k < 4 := hk
      rcases (show k = 0 ∨ k = 1 ∨ k = 2 ∨ k = 3 by omega) with e | e | e | e <;> subst e
      · exact (if_neg (by decide)).symm
      · exact (if_neg (by decide)).symm
      · exact (if_neg (by decide)).symm
      · exact (if_pos hj).trans (if_pos rfl).symm
  · refine ⟨r0, r1, r2, r3, cpN d r4 2243, r5, r6, r7, ?_, fun k hk j hj => ?_⟩
    · unfold X7_remember
      exact (if_neg (show ¬ nI 4 = 8 from by decide +kernel)).trans (r_rem53_4 d r0 r1 r2 r3 r4 r5 r6 r7)
    · have hk : k < 5 := hk
      rcases (show k = 0 ∨ k = 1 ∨ k = 2 ∨ k = 3 ∨ k = 4 by omega) with e | e | e | e | e <;> subst e
      · exact (if_neg (by decide)).symm
      · exact (if_neg (by decide)).symm
      · exact (if_neg (by decide)).symm
      · exact (if_neg (by decide)).symm
      · exact (if_pos hj).trans (if_pos rfl).symm
  · refine ⟨r0, r1, r2, r3, r4, cpN d r5 2243, r6, r7, ?_, fun k hk j hj => ?_⟩
    · unfold X7_remember
      exact (if_neg (show ¬ nI 5 = 8 from by decide +kernel)).trans (r_rem53_5 d r0 r1 r2 r3 r4 r5 r6 r7)
    · have hk : k < 6 := hk
      rcases (show k = 0 ∨ k = 1 ∨ k = 2 ∨ k = 3 ∨ k = 4 ∨ k = 5 by omega) with e | e | e | e | e | e <;> subst e
      · exact (if_neg (by decide)).symm
      · exact (if_neg (by decide)).symm
      · exact (if_neg (by decide)).symm
      · exact (if_neg (by decide)).symm
      · exact (if_neg (by decide)).symm
      · exact (if_pos hj).trans (if_pos rfl).symm
  · refine ⟨r0, r1, r2, r3, r4, r5, cpN d r6 2243, r7, ?_, fun k hk j hj => ?_⟩
    · unfold X7_remember
      exact (if_neg (show ¬ nI 6 = 8 from by decide +kernel)).trans (r_rem53_6 d r0 r1 r2 r3 r4 r5 r6 r7)
    · have hk : k < 7 := hk
      rcases (show k = 0 ∨ k = 1 ∨ k = 2 ∨ k = 3 ∨ k = 4 ∨ k = 5 ∨ k = 6 by omega) with e | e | e | e | e | e | e <;> subst e
      · exact (if_neg (by decide)).symm
      · exact (if_neg (by decide)).symm
      · exact (if_neg (by decide)).symm
      · exact (if_neg (by decide)).symm
      · exact (if_neg (by decide)).symm
      · exact (if_neg (by decide)).symm
      · exact (if_pos hj).trans (if_pos rfl).symm
  · refine ⟨r0, r1, r2, r3, r4, r5, r6, cpN d r7 2243, ?_, fun k hk j hj => ?_⟩
    · unfold X7_remember
      exact (if_neg (show ¬ nI 7 = 8 from by decide +kernel)).trans (r_rem53_7 d r0 r1 r2 r3 r4 r5 r6 r7)
    · have hk : k < 8 := hk
      rcases (show k = 0 ∨ k = 1 ∨ k = 2 ∨ k = 3 ∨ k = 4 ∨ k = 5 ∨ k = 6 ∨ k = 7 by omega) with e | e | e | e | e | e | e | e <;> subst e
      · exact (if_neg (by decide)).symm
      · exact (if_neg (by decide)).symm
      · exact (if_neg (by decide)).symm
      · exact (if_neg (by decide)).symm
      · exact (if_neg (by decide)).symm
      · exact (if_neg (by decide)).symm
      · exact (if_neg (by decide)).symm
      · exact (if_pos hj).trans (if_pos rfl).symm
  · refine ⟨cpN r1 r0 2243, cpN r2 r1 2243, cpN r3 r2 2243, cpN r4 r3 2243, cpN r5 r4 2243, cpN r6 r5 2243, cpN r7 r6 2243, cpN d r7 2243, ?_, fun k hk j hj => ?_⟩
    · unfold X7_remember
      refine (if_pos (show nI 8 = 8 from rfl)).trans ?_
      rw [show FU = 999992 + 1 + 1 + 1 + 1 + 1 + 1 + 1 + 1 from rfl, show (1 : Int32) = nI 1 from rfl, r_rem11_1, r_rem11_2, r_rem11_3, r_rem11_4, r_rem11_5, r_rem11_6, r_rem11_7, r_rem11_8, r_rem53_7]
      rfl
    · have hk : k < 8 := hk
      rcases (show k = 0 ∨ k = 1 ∨ k = 2 ∨ k = 3 ∨ k = 4 ∨ k = 5 ∨ k = 6 ∨ k = 7 by omega) with e | e | e | e | e | e | e | e <;> subst e
      · exact (if_pos hj).trans (if_neg (by decide)).symm
      · exact (if_pos hj).trans (if_neg (by decide)).symm
      · exact (if_pos hj).trans (if_neg (by decide)).symm
      · exact (if_pos hj).trans (if_neg (by decide)).symm
      · exact (if_pos hj).trans (if_neg (by decide)).symm
      · exact (if_pos hj).trans (if_neg (by decide)).symm
      · exact (if_pos hj).trans (if_neg (by decide)).symm
      · exact (if_pos hj).trans (if_pos rfl).symm
/-- a show, by the class's sixteen and the reference's row -/
def ShowR (bw : Int32) (bh : Int32) (bp : Int32) (bo : Int32) (br : Int32) (cells : Nat → Int32) (pulls : Nat → Int32) (holeX : Nat → Int32) (holeY : Nat → Int32) (ps : Int32) (codes : Nat → Int32) (vi : Int32) (ll : Int32) (ti : Int32) (lk : Nat → Int32) (fa : Nat → Int32) (d : Nat → Int32) : Prop := ∃ (w h n HN sz V LL rc : Nat) (pull hx hy : Nat → Nat), bw = nI w ∧ bh = nI h ∧ bp = nI n ∧ bo = nI HN ∧ br = nI rc ∧ ps = nI sz ∧ vi = nI V ∧ ll = nI LL ∧ ShowN w h n HN sz V LL rc pull hx hy cells pulls holeX holeY codes ti lk fa d
theorem hOf_congr {c c' : Nat → Int32} : ∀ m : Nat, (∀ i, i < m → c' i = c i) → hOf c' m = hOf c m ∧ rOf c' m = rOf c m
  | 0, _ => ⟨rfl, rfl⟩
  | m + 1, h => by
    obtain ⟨h1, h2⟩ := hOf_congr m (fun i hi => h i (by omega))
    have e := h m (by omega)
    refine ⟨?_, ?_⟩
    · show (if opc (c' m) = true then hOf c' m - 1 else hOf c' m + 1) = (if opc (c m) = true then hOf c m - 1 else hOf c m + 1)
      rw [e, h1]
    · show rOf c' m + (if opc (c' m) = true then 1 else 2) = rOf c m + (if opc (c m) = true then 1 else 2)
      rw [e, h2]
theorem PC.congr {sz : Nat} {c c' : Nat → Int32} (P : PC sz c) (h : ∀ i, i < sz → c' i = c i) : PC sz c' := by
  refine ⟨P.1, by rw [(hOf_congr sz h).1]; exact P.2.1, fun i hi => ?_⟩
  rw [h i hi, (hOf_congr i (fun k hk => h k (by omega))).1]
  exact P.2.2 i hi
theorem PAll.congrC {sz : Nat} {c c' d : Nat → Int32} (P : PAll sz c d) (h : ∀ i, i < sz → c' i = c i) : PAll sz c' d := by
  rcases P with ⟨h8, e, h0, h1, h2⟩ | ⟨h8, h9, hc⟩
  · subst e
    exact Or.inl ⟨h8, rfl, (h 0 (by omega)).trans h0, (h 1 (by omega)).trans h1, (h 2 (by omega)).trans h2⟩
  · refine Or.inr ⟨h8, by rw [(hOf_congr sz h).2]; exact h9, fun i hi => ?_⟩
    rw [h i hi, (hOf_congr i (fun k hk => h k (by omega))).2]
    exact hc i hi
/-- whole rows that are the same where it matters -/
theorem ShowN.copy {w h n HN sz V LL rc : Nat} {pull hx hy : Nat → Nat} {cells pulls holeX holeY codes : Nat → Int32} {ti : Int32} {lk fa d cells' pulls' holeX' holeY' codes' lk' fa' d' : Nat → Int32} (N : ShowN w h n HN sz V LL rc pull hx hy cells pulls holeX holeY codes ti lk fa d)
    (h1 : ∀ m, m < 480 → cells' m = cells m) (h2 : ∀ m, m < 5 → pulls' m = pulls m) (h3 : ∀ m, m < 4 → holeX' m = holeX m) (h4 : ∀ m, m < 4 → holeY' m = holeY m) (h5 : ∀ m, m < sz → codes' m = codes m) (h6 : ∀ m, m < 4 → lk' m = lk m) (h7 : ∀ m, m < 140 → fa' m = fa m) (h8 : ∀ j, j < 2243 → d' j = d j) :
    ShowN w h n HN sz V LL rc pull hx hy cells' pulls' holeX' holeY' codes' ti lk' fa' d' := by
  obtain ⟨⟨S, B, C, R⟩, ⟨P, D⟩, ⟨b1, b2, b3, b4, b5⟩, ⟨d4, d5, d6, d7⟩, I, VR⟩ := N
  have s1 := S.1
  have s2 := S.2.1
  have s3 := S.2.2.1
  have s4 := S.2.2.2.1
  exact ⟨⟨S, B.copy s1.2 s2.2 s3.2 s3.1 h1, C.copy s3.2 s4 h2 h3 h4, (R.congr S (fun j q1 q2 => h8 j (by omega))).copy s1.2 s2.2 s3.2 h1⟩, ⟨P.congr h5, (D.congrC h5).congr P.1 (fun j q => h8 j (by omega))⟩, ⟨b1, b2, b3, b4, b5⟩, ⟨(h8 4 (by omega)).trans d4, (h8 5 (by omega)).trans d5, (h8 6 (by omega)).trans d6, (h8 7 (by omega)).trans d7⟩, I.copy b3 s4 h6 h7, VR.copy b3 h7 (fun j q1 q2 => h8 j (by omega))⟩
theorem ShowR.row {bw bh bp bo br : Int32} {cells pulls holeX holeY : Nat → Int32} {ps : Int32} {codes : Nat → Int32} {vi ll ti : Int32} {lk fa d d' : Nat → Int32} (N : ShowR bw bh bp bo br cells pulls holeX holeY ps codes vi ll ti lk fa d) (h8 : ∀ j, j < 2243 → d' j = d j) : ShowR bw bh bp bo br cells pulls holeX holeY ps codes vi ll ti lk fa d' := by
  obtain ⟨w, h, n, HN, sz, V, LL, rc, pull, hx, hy, e1, e2, e3, e4, e5, e6, e7, e8, N⟩ := N
  exact ⟨w, h, n, HN, sz, V, LL, rc, pull, hx, hy, e1, e2, e3, e4, e5, e6, e7, e8, N.copy (fun _ _ => rfl) (fun _ _ => rfl) (fun _ _ => rfl) (fun _ _ => rfl) (fun _ _ => rfl) (fun _ _ => rfl) (fun _ _ => rfl) h8⟩
/-- the class copies a show -/
theorem q_showCopy (ebw : Int32) (ebh : Int32) (ebp : Int32) (ebo : Int32) (ebr : Int32) (ecells : Nat → Int32) (epulls : Nat → Int32) (eholeX : Nat → Int32) (eholeY : Nat → Int32) (eps : Int32) (ecodes : Nat → Int32) (evi : Int32) (ell : Int32) (eti : Int32) (elk : Nat → Int32) (efa : Nat → Int32) {bw bh bp bo br : Int32} {cells pulls holeX holeY : Nat → Int32} {ps : Int32} {codes : Nat → Int32} {vi ll ti : Int32} {lk fa d : Nat → Int32} (N : ShowR bw bh bp bo br cells pulls holeX holeY ps codes vi ll ti lk fa d) : X4_copyFrom ebw ebh ebp ebo ebr ecells epulls eholeX eholeY eps ecodes evi ell eti elk efa bw bh bp bo br cells pulls holeX holeY ps codes vi ll ti lk fa = some (bw, bh, bp, bo, br, va_cpy cells ecells 0 0 480, va_cpy pulls epulls 0 0 5, va_cpy holeX eholeX 0 0 4, va_cpy holeY eholeY 0 0 4, ps, va_cpy codes ecodes 0 0 ps.toNatClampNeg, vi, ll, ti, va_cpy lk elk 0 0 4, va_cpy fa efa 0 0 140) ∧ ShowR bw bh bp bo br (va_cpy cells ecells 0 0 480) (va_cpy pulls epulls 0 0 5) (va_cpy holeX eholeX 0 0 4) (va_cpy holeY eholeY 0 0 4) ps (va_cpy codes ecodes 0 0 ps.toNatClampNeg) vi ll ti (va_cpy lk elk 0 0 4) (va_cpy fa efa 0 0 140) d := by
  obtain ⟨w, h, n, HN, sz, V, LL, rc, pull, hx, hy, e1, e2, e3, e4, e5, e6, e7, e8, N⟩ := N
  have hsz := N.2.1.1.1
  subst e6
  rw [nI_clamp (show sz < 2 ^ 31 by omega)]
  refine ⟨?_, w, h, n, HN, sz, V, LL, rc, pull, hx, hy, e1, e2, e3, e4, e5, rfl, e7, e8, N.copy (fun m hm => s_cin hm) (fun m hm => s_cin hm) (fun m hm => s_cin hm) (fun m hm => s_cin hm) (fun m hm => s_cin hm) (fun m hm => s_cin hm) (fun m hm => s_cin hm) (fun _ _ => rfl)⟩
  unfold X4_copyFrom
  rw [q_boxCopy ebw ebh ebp ebo ebr ecells epulls eholeX eholeY eps ecodes bw bh bp bo br cells pulls holeX holeY codes hsz]
  rfl
theorem q_remember {j np u : Nat} (hj : j = np) (hn : np < 8) (hu : u ≤ 8) (ebw : Int32) (ebh : Int32) (ebp : Int32) (ebo : Int32) (ebr : Int32) (ecells : Nat → Int32) (epulls : Nat → Int32) (eholeX : Nat → Int32) (eholeY : Nat → Int32) (eps : Int32) (ecodes : Nat → Int32) (evi : Int32) (ell : Int32) (eti : Int32) (elk : Nat → Int32) (efa : Nat → Int32) {bw bh bp bo br : Int32} {cells pulls holeX holeY : Nat → Int32} {ps : Int32} {codes : Nat → Int32} {vi ll ti : Int32} {lk fa d : Nat → Int32} (N : ShowR bw bh bp bo br cells pulls holeX holeY ps codes vi ll ti lk fa d) : X6_remember j (nI np) (nI u) bw bh bp bo br cells pulls holeX holeY ps codes vi ll ti lk fa ebw ebh ebp ebo ebr ecells epulls eholeX eholeY eps ecodes evi ell eti elk efa = some (nI ((np + 1) % 8), nI (min (u + 1) 8), bw, bh, bp, bo, br, va_cpy cells ecells 0 0 480, va_cpy pulls epulls 0 0 5, va_cpy holeX eholeX 0 0 4, va_cpy holeY eholeY 0 0 4, ps, va_cpy codes ecodes 0 0 ps.toNatClampNeg, vi, ll, ti, va_cpy lk elk 0 0 4, va_cpy fa efa 0 0 140) := by
  subst hj
  unfold X6_remember
  have hc : (nI j).toNatClampNeg = j := nI_clamp (by omega)
  rw [q_ck ⟨by rw [hc]; exact fun q => q.elim (nI_pos (by omega)) (by omega), hc⟩, q_b16 (q_showCopy ebw ebh ebp ebo ebr ecells epulls eholeX eholeY eps ecodes evi ell eti elk efa N).1]
  have hm : nI j + 1 - (nI j + 1) / 8 * 8 = nI ((j + 1) % 8) := by rw [nI_1]; exact pk_rem (d := 8) (by omega) (by omega) (by omega)
  have hu2 : (if (8 : Int32) < nI u + 1 then (8 : Int32) else nI u + 1) = nI (min (u + 1) 8) := by
    rw [nI_1, Nat.min_comm]
    exact q_min (a := 8) (by omega) (by omega)
  show some (nI j + 1 - (nI j + 1) / 8 * 8, (if (8 : Int32) < nI u + 1 then (8 : Int32) else nI u + 1), _) = _
  rw [hm, hu2]
/-- the shows that undo brings back, the latest first -/
def Ring (np u : Nat) (Pbw : Nat → Int32) (Pbh : Nat → Int32) (Pbp : Nat → Int32) (Pbo : Nat → Int32) (Pbr : Nat → Int32) (Pcells : Nat → Nat → Int32) (Ppulls : Nat → Nat → Int32) (PholeX : Nat → Nat → Int32) (PholeY : Nat → Nat → Int32) (Pps : Nat → Int32) (Pcodes : Nat → Nat → Int32) (Pvi : Nat → Int32) (Pll : Nat → Int32) (Pti : Nat → Int32) (Plk : Nat → Nat → Int32) (Pfa : Nat → Nat → Int32) (r0 r1 r2 r3 r4 r5 r6 r7 : Nat → Int32) : Prop := np < 8 ∧ u ≤ 8 ∧ ∀ k, k < u → ShowR (Pbw ((np + 7 - k) % 8)) (Pbh ((np + 7 - k) % 8)) (Pbp ((np + 7 - k) % 8)) (Pbo ((np + 7 - k) % 8)) (Pbr ((np + 7 - k) % 8)) (Pcells ((np + 7 - k) % 8)) (Ppulls ((np + 7 - k) % 8)) (PholeX ((np + 7 - k) % 8)) (PholeY ((np + 7 - k) % 8)) (Pps ((np + 7 - k) % 8)) (Pcodes ((np + 7 - k) % 8)) (Pvi ((np + 7 - k) % 8)) (Pll ((np + 7 - k) % 8)) (Pti ((np + 7 - k) % 8)) (Plk ((np + 7 - k) % 8)) (Pfa ((np + 7 - k) % 8)) (hsel r0 r1 r2 r3 r4 r5 r6 r7 (u - 1 - k))
/-- one more is kept -/
theorem Ring.push {np u : Nat} {Pbw Pbh Pbp Pbo Pbr Pps Pvi Pll Pti : Nat → Int32} {Pcells Ppulls PholeX PholeY Pcodes Plk Pfa : Nat → Nat → Int32} {r0 r1 r2 r3 r4 r5 r6 r7 q0 q1 q2 q3 q4 q5 q6 q7 d : Nat → Int32} (G : Ring np u Pbw Pbh Pbp Pbo Pbr Pcells Ppulls PholeX PholeY Pps Pcodes Pvi Pll Pti Plk Pfa r0 r1 r2 r3 r4 r5 r6 r7) {Xbw Xbh Xbp Xbo Xbr Xps Xvi Xll Xti : Nat → Int32} {Xcells Xpulls XholeX XholeY Xcodes Xlk Xfa : Nat → Nat → Int32}
    (hx : ∀ i, i ≠ np → Xbw i = Pbw i ∧ Xbh i = Pbh i ∧ Xbp i = Pbp i ∧ Xbo i = Pbo i ∧ Xbr i = Pbr i ∧ Xcells i = Pcells i ∧ Xpulls i = Ppulls i ∧ XholeX i = PholeX i ∧ XholeY i = PholeY i ∧ Xps i = Pps i ∧ Xcodes i = Pcodes i ∧ Xvi i = Pvi i ∧ Xll i = Pll i ∧ Xti i = Pti i ∧ Xlk i = Plk i ∧ Xfa i = Pfa i) (hN : ShowR (Xbw np) (Xbh np) (Xbp np) (Xbo np) (Xbr np) (Xcells np) (Xpulls np) (XholeX np) (XholeY np) (Xps np) (Xcodes np) (Xvi np) (Xll np) (Xti np) (Xlk np) (Xfa np) d) (hq : ∀ k, k < min (u + 1) 8 → ∀ j, j < 2243 → hsel q0 q1 q2 q3 q4 q5 q6 q7 k j = (if k + 1 = min (u + 1) 8 then d j else hsel r0 r1 r2 r3 r4 r5 r6 r7 (if u = 8 then k + 1 else k) j)) :
    Ring ((np + 1) % 8) (min (u + 1) 8) Xbw Xbh Xbp Xbo Xbr Xcells Xpulls XholeX XholeY Xps Xcodes Xvi Xll Xti Xlk Xfa q0 q1 q2 q3 q4 q5 q6 q7 := by
  obtain ⟨g1, g2, g3⟩ := G
  refine ⟨Nat.mod_lt _ (by omega), Nat.min_le_right _ _, fun k hk => ?_⟩
  by_cases e : k = 0
  · subst e
    have e1 : ((np + 1) % 8 + 7 - 0) % 8 = np := by omega
    rw [e1]
    exact hN.row (fun j hj => by rw [hq _ (by omega) j hj, if_pos (by omega)])
  · have e1 : ((np + 1) % 8 + 7 - k) % 8 = (np + 7 - (k - 1)) % 8 := by omega
    have e2 : (np + 7 - (k - 1)) % 8 ≠ np := by omega
    rw [e1]
    obtain ⟨z0, z1, z2, z3, z4, z5, z6, z7, z8, z9, z10, z11, z12, z13, z14, z15⟩ := hx _ e2
    rw [z0, z1, z2, z3, z4, z5, z6, z7, z8, z9, z10, z11, z12, z13, z14, z15]
    refine (g3 (k - 1) (by omega)).row (fun j hj => ?_)
    rw [hq _ (by omega) j hj, if_neg (by omega)]
    by_cases e8 : u = 8
    · rw [if_pos e8, show min (u + 1) 8 - 1 - k + 1 = u - 1 - (k - 1) by omega]
    · rw [if_neg e8, show min (u + 1) 8 - 1 - k = u - 1 - (k - 1) by omega]
/-- the latest one is taken back -/
theorem Ring.pop {np u : Nat} {Pbw Pbh Pbp Pbo Pbr Pps Pvi Pll Pti : Nat → Int32} {Pcells Ppulls PholeX PholeY Pcodes Plk Pfa : Nat → Nat → Int32} {r0 r1 r2 r3 r4 r5 r6 r7 : Nat → Int32} (G : Ring np u Pbw Pbh Pbp Pbo Pbr Pcells Ppulls PholeX PholeY Pps Pcodes Pvi Pll Pti Plk Pfa r0 r1 r2 r3 r4 r5 r6 r7) (h0 : 0 < u) : ShowR (Pbw ((np + 7) % 8)) (Pbh ((np + 7) % 8)) (Pbp ((np + 7) % 8)) (Pbo ((np + 7) % 8)) (Pbr ((np + 7) % 8)) (Pcells ((np + 7) % 8)) (Ppulls ((np + 7) % 8)) (PholeX ((np + 7) % 8)) (PholeY ((np + 7) % 8)) (Pps ((np + 7) % 8)) (Pcodes ((np + 7) % 8)) (Pvi ((np + 7) % 8)) (Pll ((np + 7) % 8)) (Pti ((np + 7) % 8)) (Plk ((np + 7) % 8)) (Pfa ((np + 7) % 8)) (hsel r0 r1 r2 r3 r4 r5 r6 r7 (u - 1)) ∧ Ring ((np + 7) % 8) (u - 1) Pbw Pbh Pbp Pbo Pbr Pcells Ppulls PholeX PholeY Pps Pcodes Pvi Pll Pti Plk Pfa r0 r1 r2 r3 r4 r5 r6 r7 := by
  obtain ⟨g1, g2, g3⟩ := G
  refine ⟨g3 0 h0, Nat.mod_lt _ (by omega), by omega, fun k hk => ?_⟩
  have h := g3 (k + 1) (by omega)
  rw [show (np + 7 - (k + 1)) % 8 = ((np + 7) % 8 + 7 - k) % 8 by omega, show u - 1 - (k + 1) = u - 1 - 1 - k by omega] at h
  exact h
