/-! PHASE 2: what is foretold; the mean; the checksum -/
theorem fdiv_nn {a b : Int32} (hb : b ≠ 0) : (FP.fdiv (FP.i2f a) (FP.i2f b)) &&& 0x7fffffff ≤ 0x7f800000 := by
  have hf : ∀ v : Int32, FP.Core.fIsNaN (FP.Core.i2f v) = false := fun v => (FP.Core.notNaN_iff32 _).mpr (by
    obtain ⟨s, c, q, h⟩ := FP.Core.i2f_fin v
    rw [h]
    exact fun z => by cases z)
  have hz : ¬ FP.Core.FZero (FP.Core.i2f b) := fun q => FP.Core.i2f_ne_zero hb ((FP.Core.zero_bits232 _).mp q)
  have h : FP.Core.fIsNaN (FP.fdiv (FP.i2f a) (FP.i2f b)) = false := FP.Core.fdiv_out (hf a) (FP.Core.i2f_fin b) hz
  have h := (FP.Core.ne_nan32 _).mp ((FP.Core.notNaN_iff32 _).mp h)
  rw [UInt32.le_iff_toNat_le, UInt32.toNat_and, show (0x7fffffff : UInt32).toNat = 2 ^ 31 - 1 from by decide, show (0x7f800000 : UInt32).toNat = 2139095040 from by decide, Nat.and_two_pow_sub_one_eq_mod]
  exact h
section TOLD
variable {w h n HN sz V LL rc : Nat} {pull hx hy : Nat → Nat} {cells pulls holeX holeY codes : Nat → Int32} {ti : Int32} {lk fa d : Nat → Int32}
theorem m_meanPaid (N : ShowN w h n HN sz V LL rc pull hx hy cells pulls holeX holeY codes ti lk fa d) (o : Int32) : ∃ v, X6_meanPaid (nI V) fa = some v ∧ X7_meanPaid o d = some (v, nI 0) := by
  obtain ⟨-, -, ⟨b1, b2, b3, b4, b5⟩, ⟨d4, d5, d6, d7⟩, I, VR⟩ := N
  unfold X6_meanPaid X7_meanPaid
  rw [q_b1 (q_stN fa b3 2), q_b1 (r_stN b3 d7 VR 2)]
  by_cases c : nI (stN fa V 2) = 0
  · rw [if_pos c, if_pos c]
    exact ⟨_, rfl, rfl⟩
  · rw [if_neg c, if_neg c, q_b1 (q_paidI fa b3), q_b1 (r_paidI b3 d7 VR), q_b1 (r_stN b3 d7 VR 2), q_ck (fdiv_nn c), q_ck (fdiv_nn c)]
    exact ⟨_, rfl, rfl⟩
/-- rows of the same size, one copied over the other's front -/
theorem back_same {d d1 : Nat → Int32} (hS : Sm d d1) (hd : ∀ j, 643 ≤ j → d1 j = d j) (a : Nat → Int32) : cpN (cpN d a 643) d1 643 = d := by
  funext j
  unfold cpN
  by_cases c : j < 643
  · rw [if_pos c, if_pos c]
  · rw [if_neg c]; exact hd j (by omega)
theorem TRel.start (N : ShowN w h n HN sz V LL rc pull hx hy cells pulls holeX holeY codes ti lk fa d) {Pf : Nat → Nat → Nat} {prices : Nat → Int32} (P : PCa HN Pf prices) : TRel V HN Pf d ti lk fa prices d := ⟨N.2.2.2.2.1, N.2.2.2.2.2, Sm.refl d, N.2.2.2.1.2.2.1, P⟩
/-- a crowd's copy serves as well -/
theorem CInv.copy {lk' fa' : Nat → Int32} (I : CInv V HN lk fa) (hV : V ≤ 20) (hH : HN ≤ 4) (hl : ∀ k, k < 4 → lk' k = lk k) (hf : ∀ m, m < 140 → fa' m = fa m) : CInv V HN lk' fa' := by
  refine ⟨fun v hv => ?_, fun k hk => ?_⟩
  · have h := I.1 v hv
    unfold VOne at h ⊢
    rw [hf _ (by omega), hf _ (by omega), hf _ (by omega), hf _ (by omega), hf _ (by omega), hf _ (by omega), hf _ (by omega)]
    obtain ⟨h0, h1, h2, h6, h3⟩ := h
    refine ⟨h0, h1, h2, h6, ?_⟩
    rcases h3 with ⟨q3, k, t, hk, q4, q5, q6⟩ | q
    · exact Or.inl ⟨q3, k, t, hk, q4, (hl k (by omega)).trans q5, q6⟩
    · exact Or.inr q
  · rw [hl k (by omega)]
    rcases I.2 k hk with h | ⟨v, hv, q1, q2, q3⟩
    · exact Or.inl h
    · exact Or.inr ⟨v, hv, q1, by rw [hf _ (by omega)]; exact q2, by rw [hf _ (by omega)]; exact q3⟩
theorem VRel.copy {fa' d' : Nat → Int32} (R : VRel V fa d) (hV : V ≤ 20) (hf : ∀ m, m < 140 → fa' m = fa m) (hd : ∀ j, 503 ≤ j → j < 643 → d' j = d j) : VRel V fa' d' := fun v hv k hk => by
  rw [hf _ (by omega), hd _ (by omega) (by omega)]
  exact R v hv k hk
theorem q_crowdCopy (a0 a1 a2 : Int32) (a3 a4 : Nat → Int32) (v l t : Int32) (lk fa : Nat → Int32) : X1_copyFrom a0 a1 a2 a3 a4 v l t lk fa = some (v, l, t, va_cpy lk a3 0 0 4, va_cpy fa a4 0 0 140) := rfl
/-- the ticks of what is foretold -/
theorem foretoldL {Pf Cf : Nat → Nat → Nat} {counts kinds depths d0 : Nat → Int32} (T : TCtx V HN LL sz (nI h) (nI rc) holeY Pf Cf codes counts kinds depths d0) (tk j : Nat) (htk : tk ≤ 100) (hj : j ≤ 3) (nv nl nt : Int32) (nlk nfa aside : Nat → Int32) (o : Int32) : ∀ (fuel i : Nat) (ti : Int32) (waiting lk fa prices data : Nat → Int32) (stack : Nat → Int64) (fc : Nat → Int32), tk - i < fuel → i ≤ tk → TRel V HN Pf d0 ti lk fa prices data →
    ∃ v w1 t1 l1 f1 p1 d1 s1 g1, X6_foretold_L35 (nI h) (nI HN) (nI rc) holeY (nI sz) codes nv nl nt nlk nfa counts kinds depths (nI tk) (nI j) fuel (nI i) waiting (nI V) (nI LL) ti lk fa prices = some (.inr (v, w1, nI V, nI LL, t1, l1, f1, p1)) ∧ X7_foretold_L55 (nI tk) (nI j) fuel (nI i) o data aside stack fc = some (v, o, cpN aside d1 643, aside, s1, g1) ∧ TRel V HN Pf d0 t1 l1 f1 p1 d1
  | 0, i, _, _, _, _, _, _, _, _, h0, _, _ => absurd h0 (Nat.not_lt_zero _)
  | fuel + 1, i, ti, waiting, lk, fa, prices, data, stack, fc, h0, hi, I => by
    have hV := T.2.2.1
    have h7 : data 7 = nI V := (T.2.1 data I.2.2.1).2.2.2.2.2.2
    rw [X6_foretold_L35, X7_foretold_L55]
    by_cases e : i = tk
    · subst e
      have c1 := q_stN fa hV
      have c2 := r_stN hV h7 I.2.1
      have c3 := q_paidI fa hV
      have c4 := r_paidI hV h7 I.2.1
      have cc : X7_copy 643 2243 aside data (nI 643) = some (cpN aside data 643) := r_copy rfl (by omega) (by omega) (by omega) (by omega) (by omega)
      rcases (show j = 0 ∨ j = 1 ∨ j = 2 ∨ j = 3 by omega) with e | e | e | e <;> subst e
      · exact ⟨paidI fa V, waiting, ti, lk, fa, prices, data, stack, fc, by simp (disch := omega) only [s_lit, s_b0, s_b1, s_b2, s_b3, s_b4, s_b5, s_b6, s_x0, s_x0l, s_t1, s_nm, s_ckT, s_ld, s_st, s_clamp, nI_add, pk_mul, s_sub, s_nad, s_div, s_mod, s_rem2, s_le_t, s_le_f, s_lt_t, s_lt_f, s_eq_t, s_eq_f, s_n1, s_n2, s_n3, s_n4, s_n5, s_n6, s_n7, s_n8, s_n9, s_n10, s_n11, s_n12, s_us, s_un, s_uLs, s_uLn, ↓reduceIte, not_false_eq_true, not_true_eq_false, true_and, and_true, and_self, or_false, false_or, or_self, true_or, or_true, false_and, and_false, Int32.neg_neg, Nat.add_zero, Nat.zero_add, Nat.reduceSub, Nat.reduceAdd, Nat.reduceMul, Nat.reduceLeDiff, c3], by simp (disch := omega) only [s_lit, s_b0, s_b1, s_b2, s_b3, s_b4, s_b5, s_b6, s_x0, s_x0l, s_t1, s_nm, s_ckT, s_ld, s_st, s_clamp, nI_add, pk_mul, s_sub, s_nad, s_div, s_mod, s_rem2, s_le_t, s_le_f, s_lt_t, s_lt_f, s_eq_t, s_eq_f, s_n1, s_n2, s_n3, s_n4, s_n5, s_n6, s_n7, s_n8, s_n9, s_n10, s_n11, s_n12, s_us, s_un, s_uLs, s_uLn, ↓reduceIte, not_false_eq_true, not_true_eq_false, true_and, and_true, and_self, or_false, false_or, or_self, true_or, or_true, false_and, and_false, Int32.neg_neg, Nat.add_zero, Nat.zero_add, Nat.reduceSub, Nat.reduceAdd, Nat.reduceMul, Nat.reduceLeDiff, c4, X7_foretold_J104, cc], I⟩
      · exact ⟨nI (stN fa V (nI 0)), waiting, ti, lk, fa, prices, data, stack, fc, by simp (disch := omega) only [s_lit, s_b0, s_b1, s_b2, s_b3, s_b4, s_b5, s_b6, s_x0, s_x0l, s_t1, s_nm, s_ckT, s_ld, s_st, s_clamp, nI_add, pk_mul, s_sub, s_nad, s_div, s_mod, s_rem2, s_le_t, s_le_f, s_lt_t, s_lt_f, s_eq_t, s_eq_f, s_n1, s_n2, s_n3, s_n4, s_n5, s_n6, s_n7, s_n8, s_n9, s_n10, s_n11, s_n12, s_us, s_un, s_uLs, s_uLn, ↓reduceIte, not_false_eq_true, not_true_eq_false, true_and, and_true, and_self, or_false, false_or, or_self, true_or, or_true, false_and, and_false, Int32.neg_neg, Nat.add_zero, Nat.zero_add, Nat.reduceSub, Nat.reduceAdd, Nat.reduceMul, Nat.reduceLeDiff, c1], by simp (disch := omega) only [s_lit, s_b0, s_b1, s_b2, s_b3, s_b4, s_b5, s_b6, s_x0, s_x0l, s_t1, s_nm, s_ckT, s_ld, s_st, s_clamp, nI_add, pk_mul, s_sub, s_nad, s_div, s_mod, s_rem2, s_le_t, s_le_f, s_lt_t, s_lt_f, s_eq_t, s_eq_f, s_n1, s_n2, s_n3, s_n4, s_n5, s_n6, s_n7, s_n8, s_n9, s_n10, s_n11, s_n12, s_us, s_un, s_uLs, s_uLn, ↓reduceIte, not_false_eq_true, not_true_eq_false, true_and, and_true, and_self, or_false, false_or, or_self, true_or, or_true, false_and, and_false, Int32.neg_neg, Nat.add_zero, Nat.zero_add, Nat.reduceSub, Nat.reduceAdd, Nat.reduceMul, Nat.reduceLeDiff, c2, X7_foretold_J101, X7_foretold_J104, cc], I⟩
      · exact ⟨nI (stN fa V (nI 1)), waiting, ti, lk, fa, prices, data, stack, fc, by simp (disch := omega) only [s_lit, s_b0, s_b1, s_b2, s_b3, s_b4, s_b5, s_b6, s_x0, s_x0l, s_t1, s_nm, s_ckT, s_ld, s_st, s_clamp, nI_add, pk_mul, s_sub, s_nad, s_div, s_mod, s_rem2, s_le_t, s_le_f, s_lt_t, s_lt_f, s_eq_t, s_eq_f, s_n1, s_n2, s_n3, s_n4, s_n5, s_n6, s_n7, s_n8, s_n9, s_n10, s_n11, s_n12, s_us, s_un, s_uLs, s_uLn, ↓reduceIte, not_false_eq_true, not_true_eq_false, true_and, and_true, and_self, or_false, false_or, or_self, true_or, or_true, false_and, and_false, Int32.neg_neg, Nat.add_zero, Nat.zero_add, Nat.reduceSub, Nat.reduceAdd, Nat.reduceMul, Nat.reduceLeDiff, c1], by simp (disch := omega) only [s_lit, s_b0, s_b1, s_b2, s_b3, s_b4, s_b5, s_b6, s_x0, s_x0l, s_t1, s_nm, s_ckT, s_ld, s_st, s_clamp, nI_add, pk_mul, s_sub, s_nad, s_div, s_mod, s_rem2, s_le_t, s_le_f, s_lt_t, s_lt_f, s_eq_t, s_eq_f, s_n1, s_n2, s_n3, s_n4, s_n5, s_n6, s_n7, s_n8, s_n9, s_n10, s_n11, s_n12, s_us, s_un, s_uLs, s_uLn, ↓reduceIte, not_false_eq_true, not_true_eq_false, true_and, and_true, and_self, or_false, false_or, or_self, true_or, or_true, false_and, and_false, Int32.neg_neg, Nat.add_zero, Nat.zero_add, Nat.reduceSub, Nat.reduceAdd, Nat.reduceMul, Nat.reduceLeDiff, c2, X7_foretold_J101, X7_foretold_J104, cc], I⟩
      · exact ⟨nI (stN fa V (nI 3)), waiting, ti, lk, fa, prices, data, stack, fc, by simp (disch := omega) only [s_lit, s_b0, s_b1, s_b2, s_b3, s_b4, s_b5, s_b6, s_x0, s_x0l, s_t1, s_nm, s_ckT, s_ld, s_st, s_clamp, nI_add, pk_mul, s_sub, s_nad, s_div, s_mod, s_rem2, s_le_t, s_le_f, s_lt_t, s_lt_f, s_eq_t, s_eq_f, s_n1, s_n2, s_n3, s_n4, s_n5, s_n6, s_n7, s_n8, s_n9, s_n10, s_n11, s_n12, s_us, s_un, s_uLs, s_uLn, ↓reduceIte, not_false_eq_true, not_true_eq_false, true_and, and_true, and_self, or_false, false_or, or_self, true_or, or_true, false_and, and_false, Int32.neg_neg, Nat.add_zero, Nat.zero_add, Nat.reduceSub, Nat.reduceAdd, Nat.reduceMul, Nat.reduceLeDiff, c1], by simp (disch := omega) only [s_lit, s_b0, s_b1, s_b2, s_b3, s_b4, s_b5, s_b6, s_x0, s_x0l, s_t1, s_nm, s_ckT, s_ld, s_st, s_clamp, nI_add, pk_mul, s_sub, s_nad, s_div, s_mod, s_rem2, s_le_t, s_le_f, s_lt_t, s_lt_f, s_eq_t, s_eq_f, s_n1, s_n2, s_n3, s_n4, s_n5, s_n6, s_n7, s_n8, s_n9, s_n10, s_n11, s_n12, s_us, s_un, s_uLs, s_uLn, ↓reduceIte, not_false_eq_true, not_true_eq_false, true_and, and_true, and_self, or_false, false_or, or_self, true_or, or_true, false_and, and_false, Int32.neg_neg, Nat.add_zero, Nat.zero_add, Nat.reduceSub, Nat.reduceAdd, Nat.reduceMul, Nat.reduceLeDiff, c2, X7_foretold_J101, X7_foretold_J104, cc], I⟩
    · obtain ⟨l1, f1, w1, p1, d1, s1, g1, k1, k2, k3, -, -⟩ := tick_both T I waiting stack fc
      obtain ⟨v, w2, t2, l2, f2, p2, d2, s2, g2, j1, j2, j3⟩ := foretoldL T tk j htk hj nv nl nt nlk nfa aside o fuel (i + 1) (ti + 1) w1 l1 f1 p1 d1 s1 g1 (by omega) (by omega) k3
      refine ⟨v, w2, t2, l2, f2, p2, d2, s2, g2, ?_, ?_, j3⟩
      · rw [if_neg (nI_ge (show i < tk by omega) (by omega)), q_b5 k1]
        show X6_foretold_L35 _ _ _ _ _ _ _ _ _ _ _ _ _ _ _ _ fuel (nI i + 1) _ _ _ _ _ _ _ = _
        rw [nI_1]; exact j1
      · rw [if_neg (nI_ge (show i < tk by omega) (by omega)), q_b3 k2]
        show X7_foretold_L55 _ _ fuel (nI i + 1) _ _ _ _ _ = _
        rw [nI_1]; exact j2
theorem m_foretold (N : ShowN w h n HN sz V LL rc pull hx hy cells pulls holeX holeY codes ti lk fa d) {seen counts kinds depths prices : Nat → Int32} (Vw : VOK w h n HN cells pull hx hy seen counts kinds depths) (P : PCa HN (PrB w h n cells pull hx hy sz codes) prices) (waiting : Nat → Int32) (tv tl tt : Int32) (tlk tfa : Nat → Int32) (aside : Nat → Int32) (stack : Nat → Int64) (fc : Nat → Int32) (p1 p2 o : Int32) :
    (∃ v w1 v1 l1 t1 lk1 fa1 pr1 a1 s1 f1, X6_foretold (nI h) (nI HN) (nI rc) holeY (nI sz) codes waiting (nI V) (nI LL) ti lk fa tv tl tt tlk tfa counts kinds depths prices p1 p2 = some (.inr (v, w1, v1, l1, t1, lk1, fa1, pr1)) ∧ X7_foretold o d aside stack fc p1 p2 = some (v, nI 0, d, a1, s1, f1) ∧ PCa HN (PrB w h n cells pull hx hy sz codes) pr1) ∨
    ∃ b, X6_foretold (nI h) (nI HN) (nI rc) holeY (nI sz) codes waiting (nI V) (nI LL) ti lk fa tv tl tt tlk tfa counts kinds depths prices p1 p2 = some (.inl 2) ∧ X7_foretold o d aside stack fc p1 p2 = some (b, nI 1, d, aside, stack, fc) := by
  have T := N.ctx Vw
  have hV := T.2.2.1
  have hH := T.2.2.2.1
  have I := TRel.start N P
  unfold X6_foretold X7_foretold
  rcases q_reqRange p1 1 100 (by omega) (by omega) with ⟨a, b⟩ | ⟨tk, k1, k2, rfl, a, b⟩
  · exact Or.inr ⟨nI 0, by simp (disch := omega) only [s_lit, s_b0, s_b1, s_b2, s_b3, s_b4, s_b5, s_b6, s_x0, s_x0l, s_t1, s_nm, s_ckT, s_ld, s_st, s_clamp, nI_add, pk_mul, s_sub, s_nad, s_div, s_mod, s_rem2, s_le_t, s_le_f, s_lt_t, s_lt_f, s_eq_t, s_eq_f, s_n1, s_n2, s_n3, s_n4, s_n5, s_n6, s_n7, s_n8, s_n9, s_n10, s_n11, s_n12, s_us, s_un, s_uLs, s_uLn, ↓reduceIte, not_false_eq_true, not_true_eq_false, true_and, and_true, and_self, or_false, false_or, or_self, true_or, or_true, false_and, and_false, Int32.neg_neg, Nat.add_zero, Nat.zero_add, Nat.reduceSub, Nat.reduceAdd, Nat.reduceMul, Nat.reduceLeDiff, a], by simp (disch := omega) only [s_lit, s_b0, s_b1, s_b2, s_b3, s_b4, s_b5, s_b6, s_x0, s_x0l, s_t1, s_nm, s_ckT, s_ld, s_st, s_clamp, nI_add, pk_mul, s_sub, s_nad, s_div, s_mod, s_rem2, s_le_t, s_le_f, s_lt_t, s_lt_f, s_eq_t, s_eq_f, s_n1, s_n2, s_n3, s_n4, s_n5, s_n6, s_n7, s_n8, s_n9, s_n10, s_n11, s_n12, s_us, s_un, s_uLs, s_uLn, ↓reduceIte, not_false_eq_true, not_true_eq_false, true_and, and_true, and_self, or_false, false_or, or_self, true_or, or_true, false_and, and_false, Int32.neg_neg, Nat.add_zero, Nat.zero_add, Nat.reduceSub, Nat.reduceAdd, Nat.reduceMul, Nat.reduceLeDiff, b, X7_foretold_J25, X7_foretold_J30, X7_fails, X7_fails_J16]⟩
  · rcases q_reqRange p2 0 3 (by omega) (by omega) with ⟨a2, b2⟩ | ⟨j, _, hj, rfl, a2, b2⟩
    · exact Or.inr ⟨nI 0, by simp (disch := omega) only [s_lit, s_b0, s_b1, s_b2, s_b3, s_b4, s_b5, s_b6, s_x0, s_x0l, s_t1, s_nm, s_ckT, s_ld, s_st, s_clamp, nI_add, pk_mul, s_sub, s_nad, s_div, s_mod, s_rem2, s_le_t, s_le_f, s_lt_t, s_lt_f, s_eq_t, s_eq_f, s_n1, s_n2, s_n3, s_n4, s_n5, s_n6, s_n7, s_n8, s_n9, s_n10, s_n11, s_n12, s_us, s_un, s_uLs, s_uLn, ↓reduceIte, not_false_eq_true, not_true_eq_false, true_and, and_true, and_self, or_false, false_or, or_self, true_or, or_true, false_and, and_false, Int32.neg_neg, Nat.add_zero, Nat.zero_add, Nat.reduceSub, Nat.reduceAdd, Nat.reduceMul, Nat.reduceLeDiff, a, a2], by simp (disch := omega) only [s_lit, s_b0, s_b1, s_b2, s_b3, s_b4, s_b5, s_b6, s_x0, s_x0l, s_t1, s_nm, s_ckT, s_ld, s_st, s_clamp, nI_add, pk_mul, s_sub, s_nad, s_div, s_mod, s_rem2, s_le_t, s_le_f, s_lt_t, s_lt_f, s_eq_t, s_eq_f, s_n1, s_n2, s_n3, s_n4, s_n5, s_n6, s_n7, s_n8, s_n9, s_n10, s_n11, s_n12, s_us, s_un, s_uLs, s_uLn, ↓reduceIte, not_false_eq_true, not_true_eq_false, true_and, and_true, and_self, or_false, false_or, or_self, true_or, or_true, false_and, and_false, Int32.neg_neg, Nat.add_zero, Nat.zero_add, Nat.reduceSub, Nat.reduceAdd, Nat.reduceMul, Nat.reduceLeDiff, b, b2, X7_foretold_J25, X7_foretold_J30, X7_fails, X7_fails_J16]⟩
    · have I2 : TRel V HN (PrB w h n cells pull hx hy sz codes) d ti (va_cpy lk tlk 0 0 4) (va_cpy fa tfa 0 0 140) prices d :=
        ⟨I.1.copy hV hH (fun k hk => s_cin hk) (fun m hm => s_cin hm), I.2.1.copy hV (fun m hm => s_cin hm) (fun _ _ _ => rfl), I.2.2⟩
      have cc : X7_copy 2243 643 d aside (nI 643) = some (cpN d aside 643) := r_copy rfl (by omega) (by omega) (by omega) (by omega) (by omega)
      obtain ⟨v, w1, t1, l1, f1, pr1, d1, s1, g1, j1, j2, j3⟩ := foretoldL T tk j k2 hj (nI V) (nI LL) ti lk fa (cpN d aside 643) (nI 0) FU 0 ti waiting _ _ prices d stack fc (by unfold FU; omega) (Nat.zero_le _) I2
      refine Or.inl ⟨v, w1, nI V, nI LL, t1, l1, f1, pr1, cpN d aside 643, s1, g1, ?_, ?_, j3.2.2.2.2⟩
      · simp (disch := omega) only [s_lit, s_b0, s_b1, s_b2, s_b3, s_b4, s_b5, s_b6, s_x0, s_x0l, s_t1, s_nm, s_ckT, s_ld, s_st, s_clamp, nI_add, pk_mul, s_sub, s_nad, s_div, s_mod, s_rem2, s_le_t, s_le_f, s_lt_t, s_lt_f, s_eq_t, s_eq_f, s_n1, s_n2, s_n3, s_n4, s_n5, s_n6, s_n7, s_n8, s_n9, s_n10, s_n11, s_n12, s_us, s_un, s_uLs, s_uLn, ↓reduceIte, not_false_eq_true, not_true_eq_false, true_and, and_true, and_self, or_false, false_or, or_self, true_or, or_true, false_and, and_false, Int32.neg_neg, Nat.add_zero, Nat.zero_add, Nat.reduceSub, Nat.reduceAdd, Nat.reduceMul, Nat.reduceLeDiff, a, a2, q_crowdCopy]
        exact j1
      · rw [back_same j3.2.2.1 (fun q hq => j3.2.2.1 q (by omega) (by omega))] at j2
        simp (disch := omega) only [s_lit, s_b0, s_b1, s_b2, s_b3, s_b4, s_b5, s_b6, s_x0, s_x0l, s_t1, s_nm, s_ckT, s_ld, s_st, s_clamp, nI_add, pk_mul, s_sub, s_nad, s_div, s_mod, s_rem2, s_le_t, s_le_f, s_lt_t, s_lt_f, s_eq_t, s_eq_f, s_n1, s_n2, s_n3, s_n4, s_n5, s_n6, s_n7, s_n8, s_n9, s_n10, s_n11, s_n12, s_us, s_un, s_uLs, s_uLn, ↓reduceIte, not_false_eq_true, not_true_eq_false, true_and, and_true, and_self, or_false, false_or, or_self, true_or, or_true, false_and, and_false, Int32.neg_neg, Nat.add_zero, Nat.zero_add, Nat.reduceSub, Nat.reduceAdd, Nat.reduceMul, Nat.reduceLeDiff, b, b2, X7_foretold_J30, X7_fails, X7_fails_J16, cc]
        exact j2
theorem Mm_busy {fa : Nat → Int32} (hb : nI (stN fa V (nI 0)) + nI (stN fa V (nI 1)) ≤ nI 0 → False) (hV : V ≤ 20) : ∃ v, v < V ∧ (fa (v * 7 + 3) = nI 0 ∨ fa (v * 7 + 3) = nI 1) := by
  rw [nI_add] at hb
  have h0 : 0 < stN fa V (nI 0) ∨ 0 < stN fa V (nI 1) := by
    apply Classical.byContradiction
    intro q
    exact hb (nI_le (by omega) (by omega))
  rcases h0 with h | h
  · have := cntN_any (fun v => decide (fa (v * 7 + 3) = nI 0)) V
    unfold stN at h
    rw [decide_eq_true h] at this
    obtain ⟨v, hv, e⟩ := anyN_elim _ this.symm
    exact ⟨v, hv, Or.inl (of_decide_eq_true e)⟩
  · have := cntN_any (fun v => decide (fa (v * 7 + 3) = nI 1)) V
    unfold stN at h
    rw [decide_eq_true h] at this
    obtain ⟨v, hv, e⟩ := anyN_elim _ this.symm
    exact ⟨v, hv, Or.inr (of_decide_eq_true e)⟩
theorem emptyL {Pf Cf : Nat → Nat → Nat} {counts kinds depths d0 : Nat → Int32} (T : TCtx V HN LL sz (nI h) (nI rc) holeY Pf Cf codes counts kinds depths d0) (nv nl nt : Int32) (nlk nfa aside : Nat → Int32) (o : Int32) : ∀ (fuel i : Nat) (ti : Int32) (waiting lk fa prices data : Nat → Int32) (stack : Nat → Int64) (fc : Nat → Int32), Mm fa V < fuel → i + Mm fa V < 100000 → TRel V HN Pf d0 ti lk fa prices data →
    ∃ v w1 t1 l1 f1 p1 d1 s1 g1, X6_emptyIn_L21 (nI h) (nI HN) (nI rc) holeY (nI sz) codes nv nl nt nlk nfa counts kinds depths fuel (nI i) waiting (nI V) (nI LL) ti lk fa prices = some (v, w1, nI V, nI LL, t1, l1, f1, p1) ∧ X7_emptyIn_L21 fuel (nI i) o data aside stack fc = some (v, o, cpN aside d1 643, aside, s1, g1) ∧ TRel V HN Pf d0 t1 l1 f1 p1 d1
  | 0, i, _, _, _, _, _, _, _, _, h0, _, _ => absurd h0 (Nat.not_lt_zero _)
  | fuel + 1, i, ti, waiting, lk, fa, prices, data, stack, fc, h0, hi, I => by
    have hV := T.2.2.1
    have h7 : data 7 = nI V := (T.2.1 data I.2.2.1).2.2.2.2.2.2
    have c1 := q_stN fa hV
    have c2 := r_stN hV h7 I.2.1
    have hle : ¬ (100000 : Int32) ≤ nI i := nI_ge (b := 100000) (show i < 100000 by omega) (by omega)
    rw [X6_emptyIn_L21, X7_emptyIn_L21, if_neg hle, q_b1 (c2 0), q_b1 (c2 1)]
    by_cases hb : nI (stN fa V (nI 0)) + nI (stN fa V (nI 1)) ≤ nI 0
    · have cc : X7_copy 643 2243 aside data (nI 643) = some (cpN aside data 643) := r_copy rfl (by omega) (by omega) (by omega) (by omega) (by omega)
      have hbusy : X1_isBusy (nI V) fa = some 0 := by
        unfold X1_isBusy
        rw [q_b1 (c1 0), q_b1 (c1 1)]
        exact if_pos hb
      refine ⟨nI i, waiting, ti, lk, fa, prices, data, stack, fc, ?_, ?_, I⟩
      · rw [q_b1 hbusy, if_pos rfl]
      · rw [if_pos (show nI (stN fa V 0) + nI (stN fa V 1) ≤ 0 from hb)]
        exact q_b1 cc
    · have hbusy : X1_isBusy (nI V) fa = some 1 := by
        unfold X1_isBusy
        rw [q_b1 (c1 0), q_b1 (c1 1)]
        exact if_neg hb
      obtain ⟨l1, f1, w1, p1, d1, s1, g1, k1, k2, k3, k4, k5⟩ := tick_both T I waiting stack fc
      have hlt := k5 (Mm_busy hb hV)
      obtain ⟨v, w2, t2, l2, f2, p2, d2, s2, g2, j1, j2, j3⟩ := emptyL T nv nl nt nlk nfa aside o fuel (i + 1) (ti + 1) w1 l1 f1 p1 d1 s1 g1 (by omega) (by omega) k3
      refine ⟨v, w2, t2, l2, f2, p2, d2, s2, g2, ?_, ?_, j3⟩
      · rw [q_b1 hbusy, if_neg (show ¬ (1 : Int32) = 0 from by decide), q_b5 k1]
        show X6_emptyIn_L21 _ _ _ _ _ _ _ _ _ _ _ _ _ _ fuel (nI i + 1) _ _ _ _ _ _ _ = _
        rw [nI_1]; exact j1
      · rw [if_neg (show ¬ nI (stN fa V 0) + nI (stN fa V 1) ≤ 0 from hb), q_b3 k2]
        show X7_emptyIn_L21 fuel (nI i + 1) _ _ _ _ _ = _
        rw [nI_1]; exact j2
theorem Mm_le (I : CInv V HN lk fa) (hV : V ≤ 20) : Mm fa V ≤ V * 21 := sumN_le V (fun v hv => by
  unfold mv
  by_cases c0 : fa (v * 7 + 3) = nI 0
  · rw [if_pos c0]; omega
  · rw [if_neg c0]
    by_cases c1 : fa (v * 7 + 3) = nI 1
    · rw [if_pos c1]
      rcases (I.1 v hv).2.2.2.2 with ⟨_, k, t, _, _, _, t1, t2, e⟩ | ⟨_, _, e⟩
      · rw [e, nI_clamp (by omega)]; omega
      · rw [e, nI_clamp (by omega)]; omega
    · rw [if_neg c1]; omega)
theorem m_emptyIn (N : ShowN w h n HN sz V LL rc pull hx hy cells pulls holeX holeY codes ti lk fa d) {seen counts kinds depths prices : Nat → Int32} (Vw : VOK w h n HN cells pull hx hy seen counts kinds depths) (P : PCa HN (PrB w h n cells pull hx hy sz codes) prices) (waiting : Nat → Int32) (tv tl tt : Int32) (tlk tfa : Nat → Int32) (aside : Nat → Int32) (stack : Nat → Int64) (fc : Nat → Int32) (o : Int32) :
    ∃ v w1 v1 l1 t1 lk1 fa1 pr1 a1 s1 f1, X6_emptyIn (nI h) (nI HN) (nI rc) holeY (nI sz) codes waiting (nI V) (nI LL) ti lk fa tv tl tt tlk tfa counts kinds depths prices = some (v, w1, v1, l1, t1, lk1, fa1, pr1) ∧ X7_emptyIn o d aside stack fc = some (v, nI 0, d, a1, s1, f1) ∧ PCa HN (PrB w h n cells pull hx hy sz codes) pr1 := by
  have T := N.ctx Vw
  have hV := T.2.2.1
  have hH := T.2.2.2.1
  have I := TRel.start N P
  have I2 : TRel V HN (PrB w h n cells pull hx hy sz codes) d ti (va_cpy lk tlk 0 0 4) (va_cpy fa tfa 0 0 140) prices d :=
    ⟨I.1.copy hV hH (fun k hk => s_cin hk) (fun m hm => s_cin hm), I.2.1.copy hV (fun m hm => s_cin hm) (fun _ _ _ => rfl), I.2.2⟩
  have hM := Mm_le I2.1 hV
  have cc : X7_copy 2243 643 d aside (nI 643) = some (cpN d aside 643) := r_copy rfl (by omega) (by omega) (by omega) (by omega) (by omega)
  obtain ⟨v, w1, t1, l1, f1, pr1, d1, s1, g1, j1, j2, j3⟩ := emptyL T (nI V) (nI LL) ti lk fa (cpN d aside 643) (nI 0) FU 0 ti waiting _ _ prices d stack fc (by unfold FU; omega) (by omega) I2
  refine ⟨v, w1, nI V, nI LL, t1, l1, f1, pr1, cpN d aside 643, s1, g1, ?_, ?_, j3.2.2.2.2⟩
  · unfold X6_emptyIn
    rw [q_b5 (q_crowdCopy _ _ _ _ _ _ _ _ _ _)]
    exact j1
  · rw [back_same j3.2.2.1 (fun q hq => j3.2.2.1 q (by omega) (by omega))] at j2
    unfold X7_emptyIn
    exact (q_b1 cc).trans j2
end TOLD
