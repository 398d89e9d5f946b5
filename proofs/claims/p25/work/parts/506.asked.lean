/-! NUMBERS: undo, the refused pass, the last questions, the sizes (st2.py) -/
theorem st_undo {st : St} {G : LG} {hs : Nat → LG} {k : Nat} (R : RQ st G hs (k + 1)) : ∃ st2, OP_undo st (nI k) st2 ∧ RQ st2 (hs 0) (fun j => hs (j + 1)) k := by
  obtain ⟨rf, RA, D, hud, hk8, hfil, hh⟩ := R
  have hX := r_undo 0 (Rf.data rf) (Rf.h0 rf) (Rf.h1 rf) (Rf.h2 rf) (Rf.h3 rf) (Rf.h4 rf) (Rf.h5 rf) (Rf.h6 rf) (Rf.h7 rf) (u := k + 1) (by omega) hk8
  obtain ⟨np, hn, v9, c1, c2, c3, c4, c5, c6, c7, c8, c9, c10, c11, c12, c13, c14, c15, c16, c17, c18, c19, c20, c21, c22, c23, d2, d3, g1, g2, g3⟩ := f_undo RA 0
  rw [hud, hX] at g2
  simp only [Option.some.injEq, Prod.mk.injEq] at g2
  obtain ⟨rfl, -, rfl, rfl⟩ := g2
  refine ⟨_, ⟨(np + 7) % 8, _, c1, c2, c3, c4, c5, c6, c7, c8, c9, c10, c11, c12, c13, c14, c15, c16, c17, c18, c19, c20, c21, c22, c23, Nat.mod_lt _ (by decide), g1, rfl, rfl⟩, _, g3, (hh 0 (Nat.succ_pos k)).congr (fun j hj => if_pos hj), rfl, by omega, hfil, fun j hj => ?_⟩
  have e : k + 1 - 1 - (j + 1) = k - 1 - j := by omega
  have := hh (j + 1) (by omega)
  rw [e] at this
  exact this
theorem st_undo0 {st : St} {G : LG} {hs : Nat → LG} (R : RQ st G hs 0) : ∃ st2, OP_undo st (-1) st2 ∧ RQ st2 G hs 0 := by
  obtain ⟨rf, RA, D, hud, hk8, hfil, hh⟩ := R
  have hX := r_undo0 0 (Rf.data rf) (Rf.h0 rf) (Rf.h1 rf) (Rf.h2 rf) (Rf.h3 rf) (Rf.h4 rf) (Rf.h5 rf) (Rf.h6 rf) (Rf.h7 rf)
  obtain ⟨np, hn, v9, c1, c2, c3, c4, c5, c6, c7, c8, c9, c10, c11, c12, c13, c14, c15, c16, c17, c18, c19, c20, c21, c22, c23, d2, d3, g1, g2, g3⟩ := f_undo RA 0
  rw [hud, hX] at g2
  simp only [Option.some.injEq, Prod.mk.injEq] at g2
  obtain ⟨rfl, -, rfl, rfl⟩ := g2
  exact ⟨_, ⟨(np + 7) % 8, _, c1, c2, c3, c4, c5, c6, c7, c8, c9, c10, c11, c12, c13, c14, c15, c16, c17, c18, c19, c20, c21, c22, c23, Nat.mod_lt _ (by decide), g1, rfl, rfl⟩, _, g3, D, rfl, by decide, hfil, fun j hj => absurd hj (Nat.not_lt_zero j)⟩
theorem st_size {st : St} {G : LG} {hs : Nat → LG} {k : Nat} (R : RQ st G hs k) : (1 ≤ shZ G 2 ∧ shZ G 2 ≤ 5) ∧ shZ G 1 ≤ 8 ∧ shZ G 4 ≤ 20 ∧ St.filled st = nI 0 := by
  obtain ⟨rf, RA, D, hud, hk8, hfil, hh⟩ := R
  obtain ⟨w, h, n, HN, sz, V, LL, rc, pull, hx, hy, e1, e2, e3, e4, e5, e6, e7, e8, N, Vw, P⟩ := id RA.1
  have M := NG_of N D
  obtain ⟨z0, z1, z2, z3, z4⟩ := id M.1
  obtain ⟨⟨S, -⟩, -, ⟨b1, b2, b3, b4, b5⟩, -⟩ := id N
  have s2 := S.2.1
  have s3 := S.2.2.1
  exact ⟨⟨by omega, by omega⟩, by omega, by omega, hfil⟩
theorem st_k {st : St} {G : LG} {hs : Nat → LG} {k : Nat} (R : RQ st G hs k) : k ≤ 8 := by
  obtain ⟨rf, RA, D, hud, hk8, hfil, hh⟩ := R
  exact hk8
theorem st_agr {st : St} {G : LG} {hs : Nat → LG} {k : Nat} (R : RQ st G hs k) : Agr st G := by
  obtain ⟨rf, RA, D, hud, hk8, hfil, hh⟩ := R
  exact y_Agr RA D
theorem st_pass1 (st : St) : OP_pass st 51 (-2000000098) st := by
  refine Or.inr ⟨0, by decide, ?_, rfl, rfl⟩
  unfold X6_pass
  rw [show X6_requireRange 51 1 50 = some (.inl 2) from rfl]
  rfl
theorem k_pl {n p : Nat} (hp : p < n) (hn : n ≤ 5) : X6_requirePlane (nI n) (nI p) = some (.inr ()) := by
  unfold X6_requirePlane
  simp (disch := omega) only [s_lit, s_b0, s_b1, s_b2, s_b3, s_b4, s_b5, s_b6, s_x0, s_x0l, s_t1, s_nm, s_ckT, s_ld, s_st, s_clamp, nI_add, pk_mul, s_sub, s_nad, s_div, s_mod, s_rem2, s_le_t, s_le_f, s_lt_t, s_lt_f, s_eq_t, s_eq_f, s_n1, s_n2, s_n3, s_n4, s_n5, s_n6, s_n7, s_n8, s_n9, s_n10, s_n11, s_n12, s_us, s_un, s_uLs, s_uLn, ↓reduceIte, not_false_eq_true, not_true_eq_false, true_and, and_true, and_self, or_false, false_or, or_self, true_or, or_true, false_and, and_false, Int32.neg_neg, Nat.add_zero, Nat.zero_add, Nat.reduceSub, Nat.reduceAdd, Nat.reduceMul, Nat.reduceLeDiff]
theorem k_ho {n p : Nat} (hp : p < n) (hn : n ≤ 4) : X6_requireHole (nI n) (nI p) = some (.inr ()) := by
  unfold X6_requireHole
  simp (disch := omega) only [s_lit, s_b0, s_b1, s_b2, s_b3, s_b4, s_b5, s_b6, s_x0, s_x0l, s_t1, s_nm, s_ckT, s_ld, s_st, s_clamp, nI_add, pk_mul, s_sub, s_nad, s_div, s_mod, s_rem2, s_le_t, s_le_f, s_lt_t, s_lt_f, s_eq_t, s_eq_f, s_n1, s_n2, s_n3, s_n4, s_n5, s_n6, s_n7, s_n8, s_n9, s_n10, s_n11, s_n12, s_us, s_un, s_uLs, s_uLn, ↓reduceIte, not_false_eq_true, not_true_eq_false, true_and, and_true, and_self, or_false, false_or, or_self, true_or, or_true, false_and, and_false, Int32.neg_neg, Nat.add_zero, Nat.zero_add, Nat.reduceSub, Nat.reduceAdd, Nat.reduceMul, Nat.reduceLeDiff]
theorem k_plx {n p : Nat} (hp : n ≤ p) (hn : p ≤ 99) : X6_requirePlane (nI n) (nI p) = some (.inl 1) := by
  unfold X6_requirePlane
  simp (disch := omega) only [s_lit, s_b0, s_b1, s_b2, s_b3, s_b4, s_b5, s_b6, s_x0, s_x0l, s_t1, s_nm, s_ckT, s_ld, s_st, s_clamp, nI_add, pk_mul, s_sub, s_nad, s_div, s_mod, s_rem2, s_le_t, s_le_f, s_lt_t, s_lt_f, s_eq_t, s_eq_f, s_n1, s_n2, s_n3, s_n4, s_n5, s_n6, s_n7, s_n8, s_n9, s_n10, s_n11, s_n12, s_us, s_un, s_uLs, s_uLn, ↓reduceIte, not_false_eq_true, not_true_eq_false, true_and, and_true, and_self, or_false, false_or, or_self, true_or, or_true, false_and, and_false, Int32.neg_neg, Nat.add_zero, Nat.zero_add, Nat.reduceSub, Nat.reduceAdd, Nat.reduceMul, Nat.reduceLeDiff, X6_requirePlane_J18]
theorem k_hox {n p : Nat} (hp : n ≤ p) (hn : p ≤ 99) : X6_requireHole (nI n) (nI p) = some (.inl 1) := by
  unfold X6_requireHole
  simp (disch := omega) only [s_lit, s_b0, s_b1, s_b2, s_b3, s_b4, s_b5, s_b6, s_x0, s_x0l, s_t1, s_nm, s_ckT, s_ld, s_st, s_clamp, nI_add, pk_mul, s_sub, s_nad, s_div, s_mod, s_rem2, s_le_t, s_le_f, s_lt_t, s_lt_f, s_eq_t, s_eq_f, s_n1, s_n2, s_n3, s_n4, s_n5, s_n6, s_n7, s_n8, s_n9, s_n10, s_n11, s_n12, s_us, s_un, s_uLs, s_uLn, ↓reduceIte, not_false_eq_true, not_true_eq_false, true_and, and_true, and_self, or_false, false_or, or_self, true_or, or_true, false_and, and_false, Int32.neg_neg, Nat.add_zero, Nat.zero_add, Nat.reduceSub, Nat.reduceAdd, Nat.reduceMul, Nat.reduceLeDiff, X6_requireHole_J18]
theorem k_vix {n p : Nat} (hp : n ≤ p) (hn : p ≤ 99) : X6_requireViewer (nI n) (nI p) = some (.inl 1) := by
  unfold X6_requireViewer
  simp (disch := omega) only [s_lit, s_b0, s_b1, s_b2, s_b3, s_b4, s_b5, s_b6, s_x0, s_x0l, s_t1, s_nm, s_ckT, s_ld, s_st, s_clamp, nI_add, pk_mul, s_sub, s_nad, s_div, s_mod, s_rem2, s_le_t, s_le_f, s_lt_t, s_lt_f, s_eq_t, s_eq_f, s_n1, s_n2, s_n3, s_n4, s_n5, s_n6, s_n7, s_n8, s_n9, s_n10, s_n11, s_n12, s_us, s_un, s_uLs, s_uLn, ↓reduceIte, not_false_eq_true, not_true_eq_false, true_and, and_true, and_self, or_false, false_or, or_self, true_or, or_true, false_and, and_false, Int32.neg_neg, Nat.add_zero, Nat.zero_add, Nat.reduceSub, Nat.reduceAdd, Nat.reduceMul, Nat.reduceLeDiff, X6_requireViewer_J18]
theorem st_last {st : St} {G : LG} {hs : Nat → LG} {k : Nat} (R : RQ st G hs k) : OP_load st 801 (-2000000098) st ∧ OP_stands st 0 (-1) 0 (-2000000097) st ∧ OP_sees st 4 0 0 (-2000000097) st ∧ OP_shown st (-1) 0 (-2000000097) st ∧ OP_why st 0 5 0 0 (-2000000097) st ∧ OP_price st 20 0 (-2000000097) st ∧ OP_bestPull st (-1) 0 (-2000000097) st ∧ OP_foretold st 101 0 (-2000000098) st := by
  obtain ⟨rf, RA, D, hud, hk8, hfil, hh⟩ := R
  obtain ⟨w, h, n, HN, sz, V, LL, rc, pull, hx, hy, e1, e2, e3, e4, e5, e6, e7, e8, N, Vw, P⟩ := id RA.1
  have M := NG_of N D
  obtain ⟨z0, z1, z2, z3, z4⟩ := id M.1
  obtain ⟨⟨S, -⟩, -, ⟨b1, b2, b3, b4, b5⟩, -⟩ := id N
  have s2 := S.2.1
  have s3 := S.2.2.1
  have s4 := S.2.2.2.1
  have p0 : X6_requirePlane (nI n) 0 = some (.inr ()) := k_pl (p := 0) s3.1 s3.2
  have h0 : X6_requireHole (nI HN) 0 = some (.inr ()) := k_ho (p := 0) (by omega) s4
  have p5 : X6_requirePlane (nI n) 5 = some (.inl 1) := k_plx (p := 5) s3.2 (by decide)
  have h4 : X6_requireHole (nI HN) 4 = some (.inl 1) := k_hox (p := 4) s4 (by decide)
  have v20 : X6_requireViewer (nI V) 20 = some (.inl 1) := k_vix (p := 20) b3 (by decide)
  have pm : X6_requirePlane (nI n) (-1) = some (.inl 1) := by unfold X6_requirePlane; rw [if_pos (by decide)]; rfl
  have hm : X6_requireHole (nI HN) (-1) = some (.inl 1) := by unfold X6_requireHole; rw [if_pos (by decide)]; rfl
  have cm : X6_requireCell (nI w) (nI h) (-1) 0 = some (.inl 1) := by unfold X6_requireCell; rw [if_pos (by decide)]; rfl
  refine ⟨⟨0, by decide, ?_, rfl, rfl⟩, ⟨?_, rfl, rfl⟩, ⟨?_, rfl, rfl⟩, ⟨?_, rfl, rfl⟩, ⟨?_, rfl, rfl⟩, ⟨?_, rfl, rfl⟩, ⟨?_, rfl, rfl⟩, ⟨?_, rfl, rfl⟩⟩
  · unfold X6_load
    rw [hfil, if_neg (by decide), if_neg (by decide)]
    rfl
  · unfold X6_stands
    rw [e1, e2, e3, p0, cm]
    rfl
  · unfold X6_sees
    rw [e4, h4]
    rfl
  · unfold X6_shown
    rw [e4, hm]
    rfl
  · unfold X6_why
    rw [e3, e4, h0, p5]
    rfl
  · unfold X6_price
    rw [e7, v20]
    rfl
  · unfold X6_bestPull
    rw [e3, pm]
    rfl
  · unfold X6_foretold
    rw [show X6_requireRange 101 1 100 = some (.inl 2) from rfl]
    rfl
