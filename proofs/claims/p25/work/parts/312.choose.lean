/-! PHASE 2: the crowd: who waits chooses, both sides -/
/-- can a viewer of this height use a hole -/
def useV (hI rI y a : Int32) : Int32 := if rI < (if 0 ≤ (a - ((hI - 1) - y)) then (a - ((hI - 1) - y)) else 0 - (a - ((hI - 1) - y))) then 0 else 1
theorem q_canUse (hI rI : Int32) (holeY : Nat → Int32) (a : Int32) {k : Nat} (hk : k < 4) : X0_canUse hI rI holeY a (nI k) = some (useV hI rI (holeY k) a) := by
  unfold X0_canUse useV
  rw [q_ld holeY k _ rfl hk (by omega), q_nm]
  by_cases c : rI < (if 0 ≤ (a - ((hI - 1) - holeY k)) then (a - ((hI - 1) - holeY k)) else 0 - (a - ((hI - 1) - holeY k)))
  · rw [if_pos c, if_pos c]
  · rw [if_neg c, if_neg c]
theorem r_canUse {data : Nat → Int32} {hI rI y : Int32} {v k : Nat} (hv : v < 20) (h1 : data 1 = hI) (h4 : data 4 = rI) (hy : X7_holeY data (nI k) = some y) : X7_canUse data (nI v) (nI k) = some (useV hI rI y (data (503 + 7 * v))) := by
  unfold X7_canUse useV
  rw [q_b1 (show X7_of data (nI v) 0 = some (data (503 + 7 * v)) from r_ofN (k := 0) data hv (by omega)), q_ld (i := (1 : Int32)) data 1 _ rfl (by omega) (by omega), q_b1 hy, h1, q_nm, q_ld (i := (4 : Int32)) data 4 _ rfl (by omega) (by omega), h4]
  by_cases c : rI < (if 0 ≤ (data (503 + 7 * v) - ((hI - 1) - y)) then (data (503 + 7 * v) - ((hI - 1) - y)) else 0 - (data (503 + 7 * v) - ((hI - 1) - y)))
  · rw [if_pos c, if_pos c]
  · rw [if_neg c, if_neg c]
/-- nobody looks through this hole: the reference -/
theorem r_lookL {V HN : Nat} {lookers facts data : Nat → Int32} (hV : V ≤ 20) (R : VRel V facts data) (I : CInv V HN lookers facts) (h7 : data 7 = nI V) {k : Nat} (hk : k < HN) (hH : HN ≤ 4) : ∀ (fuel u : Nat), V - u < fuel → u ≤ V → (∀ v, v < u → ¬ (facts (v * 7 + 3) = nI 1 ∧ facts (v * 7 + 4) = nI k)) → X7_lookerAt_L2 data (nI k) fuel (nI u) = some (lookers k)
  | 0, u, h0, _, _ => absurd h0 (Nat.not_lt_zero _)
  | fuel + 1, u, h0, hu, hno => by
    rw [X7_lookerAt_L2]
    by_cases e : u = V
    · subst e
      have hl : lookers k = -nI 1 := by
        rcases I.2 k hk with h | ⟨v, hv, h1, h2, h3⟩
        · exact h
        · exact absurd ⟨h2, h3⟩ (hno v hv)
      simp (disch := omega) only [s_lit, s_b0, s_b1, s_b2, s_b3, s_b4, s_b5, s_b6, s_x0, s_x0l, s_t1, s_nm, s_ckT, s_ld, s_st, s_clamp, nI_add, pk_mul, s_sub, s_nad, s_div, s_mod, s_rem2, s_le_t, s_le_f, s_lt_t, s_lt_f, s_eq_t, s_eq_f, s_n1, s_n2, s_n3, s_n4, s_n5, s_n6, s_n7, s_n8, s_n9, s_n10, s_n11, s_n12, s_us, s_un, s_uLs, s_uLn, ↓reduceIte, not_false_eq_true, not_true_eq_false, true_and, and_true, and_self, or_false, false_or, or_self, true_or, or_true, false_and, and_false, Int32.neg_neg, Nat.add_zero, Nat.zero_add, Nat.reduceSub, Nat.reduceAdd, Nat.reduceMul, Nat.reduceLeDiff, h7, hl]
    · have hu' : u < V := by omega
      have g3 := R u hu' 3 (by omega)
      have g4 := R u hu' 4 (by omega)
      by_cases c : facts (u * 7 + 3) = nI 1 ∧ facts (u * 7 + 4) = nI k
      · have hl : lookers k = nI u := by
          rcases (I.1 u hu').2.2.2.2 with ⟨_, k', t, hk', e4, hl, _⟩ | ⟨h3, _⟩
          · rw [c.2] at e4
            rw [(nI_eq (by omega) (by omega)).mp e4]; exact hl
          · rw [c.1] at h3
            simp (disch := omega) only [s_eq_f, or_self] at h3
        simp (disch := omega) only [s_lit, s_b0, s_b1, s_b2, s_b3, s_b4, s_b5, s_b6, s_x0, s_x0l, s_t1, s_nm, s_ckT, s_ld, s_st, s_clamp, nI_add, pk_mul, s_sub, s_nad, s_div, s_mod, s_rem2, s_le_t, s_le_f, s_lt_t, s_lt_f, s_eq_t, s_eq_f, s_n1, s_n2, s_n3, s_n4, s_n5, s_n6, s_n7, s_n8, s_n9, s_n10, s_n11, s_n12, s_us, s_un, s_uLs, s_uLn, ↓reduceIte, not_false_eq_true, not_true_eq_false, true_and, and_true, and_self, or_false, false_or, or_self, true_or, or_true, false_and, and_false, Int32.neg_neg, Nat.add_zero, Nat.zero_add, Nat.reduceSub, Nat.reduceAdd, Nat.reduceMul, Nat.reduceLeDiff, h7, r_ofN, g3, g4, c.1, c.2, hl]
      · have ih := r_lookL hV R I h7 hk hH fuel (u + 1) (by omega) (by omega) (fun v hv => by
          by_cases ev : v = u
          · rw [ev]; exact c
          · exact hno v (by omega))
        by_cases c3 : facts (u * 7 + 3) = nI 1
        · have c4 : ¬ facts (u * 7 + 4) = nI k := fun q => c ⟨c3, q⟩
          simp (disch := omega) only [s_lit, s_b0, s_b1, s_b2, s_b3, s_b4, s_b5, s_b6, s_x0, s_x0l, s_t1, s_nm, s_ckT, s_ld, s_st, s_clamp, nI_add, pk_mul, s_sub, s_nad, s_div, s_mod, s_rem2, s_le_t, s_le_f, s_lt_t, s_lt_f, s_eq_t, s_eq_f, s_n1, s_n2, s_n3, s_n4, s_n5, s_n6, s_n7, s_n8, s_n9, s_n10, s_n11, s_n12, s_us, s_un, s_uLs, s_uLn, ↓reduceIte, not_false_eq_true, not_true_eq_false, true_and, and_true, and_self, or_false, false_or, or_self, true_or, or_true, false_and, and_false, Int32.neg_neg, Nat.add_zero, Nat.zero_add, Nat.reduceSub, Nat.reduceAdd, Nat.reduceMul, Nat.reduceLeDiff, h7, r_ofN, g3, g4, c3, c4, X7_lookerAt_J35, ih]
        · simp (disch := omega) only [s_lit, s_b0, s_b1, s_b2, s_b3, s_b4, s_b5, s_b6, s_x0, s_x0l, s_t1, s_nm, s_ckT, s_ld, s_st, s_clamp, nI_add, pk_mul, s_sub, s_nad, s_div, s_mod, s_rem2, s_le_t, s_le_f, s_lt_t, s_lt_f, s_eq_t, s_eq_f, s_n1, s_n2, s_n3, s_n4, s_n5, s_n6, s_n7, s_n8, s_n9, s_n10, s_n11, s_n12, s_us, s_un, s_uLs, s_uLn, ↓reduceIte, not_false_eq_true, not_true_eq_false, true_and, and_true, and_self, or_false, false_or, or_self, true_or, or_true, false_and, and_false, Int32.neg_neg, Nat.add_zero, Nat.zero_add, Nat.reduceSub, Nat.reduceAdd, Nat.reduceMul, Nat.reduceLeDiff, h7, r_ofN, g3, c3, X7_lookerAt_J35, ih]
theorem r_lookerAt {V HN : Nat} {lookers facts data : Nat → Int32} (hV : V ≤ 20) (R : VRel V facts data) (I : CInv V HN lookers facts) (h7 : data 7 = nI V) {k : Nat} (hk : k < HN) (hH : HN ≤ 4) : X7_lookerAt data (nI k) = some (lookers k) := by
  unfold X7_lookerAt
  exact r_lookL hV R I h7 hk hH FU 0 (by unfold FU; omega) (Nat.zero_le _) (fun v hv => absurd hv (Nat.not_lt_zero _))
/-- what stands after the holes ahead have been asked -/
def LInv (HN : Nat) (lookers : Nat → Int32) (hp : Nat) (best mc mr : Int32) : Prop :=
  hp ≤ 1 ∧ ((best = -nI 1 ∧ mc = -nI 1 ∧ (hp = 1 → ∃ k, k < HN ∧ lookers k ≠ -nI 1)) ∨ ∃ b m, b < HN ∧ m ≤ 96 ∧ best = nI b ∧ mc = nI m ∧ mr = nI m ∧ lookers b = -nI 1 ∧ hp = 1)
/-- what a choice comes to -/
def Chose (HN LL v : Nat) (lookers facts data l1 f1 d1 : Nat → Int32) : Prop :=
  (l1 = lookers ∧ Own facts f1 v (facts (v * 7 + 2)) (nI 3) (-nI 1) (nI 0) (facts (v * 7 + 6)) ∧ OwnD data d1 v (facts (v * 7 + 2)) (nI 3) (-nI 1) (nI 0) (facts (v * 7 + 6))) ∨
  (l1 = lookers ∧ f1 = facts ∧ d1 = data ∧ ∃ k, k < HN ∧ lookers k ≠ -nI 1) ∨
  (∃ b, b < HN ∧ lookers b = -nI 1 ∧ l1 = upd lookers b (nI v) ∧ Own facts f1 v (facts (v * 7 + 2)) (nI 1) (nI b) (nI LL) (facts (v * 7 + 6)) ∧ OwnD data d1 v (facts (v * 7 + 2)) (nI 1) (nI b) (nI LL) (facts (v * 7 + 6)))
theorem chooseL {V HN LL sz : Nat} {hI rI : Int32} {holeY : Nat → Int32} {Pf Cf : Nat → Nat → Nat} {codes counts kinds depths lookers facts data : Nat → Int32} (A : CAsk HN Pf Cf sz codes counts kinds depths) (RA : RAsk V HN LL hI rI holeY Pf Cf data) (hV : V ≤ 20) (hH : HN ≤ 4) (R : VRel V facts data) (I : CInv V HN lookers facts) {v q c : Nat} (hv : v < V) (hq : q < 26) (hc : c ≤ 999)
    (f1 : facts (v * 7 + 1) = nI q) (f2 : facts (v * 7 + 2) = nI c) (f3 : facts (v * 7 + 3) = nI 0) (f4 : facts (v * 7 + 4) = -nI 1) (f5 : facts (v * 7 + 5) = nI 0) :
    ∀ (fuel i hp : Nat) (best mc mr : Int32) (waiting prices : Nat → Int32) (stack : Nat → Int64) (fc : Nat → Int32), HN - i < fuel → i ≤ HN → LInv HN lookers hp best mc mr → PCa HN Pf prices →
    ∃ l1 g1 w1 p1 d1 s1 h1, X1_choose_L20 (nI LL) lookers facts hI (nI HN) rI holeY (nI sz) codes counts kinds depths (nI v) fuel (nI q) (nI hp) best mc (nI i) waiting prices = some (l1, g1, w1, p1) ∧ X7_choose_L10 data (nI v) fuel best mr (nI hp) (nI i) stack fc = some (d1, s1, h1) ∧ PCa HN Pf p1 ∧ Chose HN LL v lookers facts data l1 g1 d1
  | 0, i, _, _, _, _, _, _, _, _, h0, _, _, _ => absurd h0 (Nat.not_lt_zero _)
  | fuel + 1, i, hp, best, mc, mr, waiting, prices, stack, fc, h0, hi, L, hP => by
    have d1' := R v hv 1 (by omega)
    have d2' := R v hv 2 (by omega)
    have d3' := R v hv 3 (by omega)
    have d4' := R v hv 4 (by omega)
    have d5' := R v hv 5 (by omega)
    have d6' := R v hv 6 (by omega)
    have d0' := R v hv 0 (by omega)
    rw [Nat.add_zero, Nat.add_zero] at d0'
    obtain ⟨ra1, ra2, ra3, ra4, ra5, ra6, ra7⟩ := RA
    obtain ⟨hp1, L⟩ := L
    rw [X1_choose_L20, X7_choose_L10]
    by_cases e : i = HN
    · subst e
      by_cases hp0 : hp = 0
      · subst hp0
        rcases L with ⟨e1, e2, -⟩ | ⟨b, m, -, -, -, -, -, -, e1⟩
        · refine ⟨lookers, upd (upd (upd facts (v * 7 + 3) (nI 3)) (v * 7 + 4) (-nI 1)) (v * 7 + 5) (nI 0), waiting, prices, upd data (503 + 7 * v + 3) (nI 3), stack, fc, ?_, ?_, hP, Or.inl ⟨rfl, ⟨fun m h2 h3 h4 h5 h6 => ?_, ?_, ?_, ?_, ?_, ?_⟩, ⟨fun m h2 h3 h4 h5 h6 => ?_, ?_, ?_, ?_, ?_, ?_⟩⟩⟩
          · simp (disch := omega) only [s_lit, s_b0, s_b1, s_b2, s_b3, s_b4, s_b5, s_b6, s_x0, s_x0l, s_t1, s_nm, s_ckT, s_ld, s_st, s_clamp, nI_add, pk_mul, s_sub, s_nad, s_div, s_mod, s_rem2, s_le_t, s_le_f, s_lt_t, s_lt_f, s_eq_t, s_eq_f, s_n1, s_n2, s_n3, s_n4, s_n5, s_n6, s_n7, s_n8, s_n9, s_n10, s_n11, s_n12, s_us, s_un, s_uLs, s_uLn, ↓reduceIte, not_false_eq_true, not_true_eq_false, true_and, and_true, and_self, or_false, false_or, or_self, true_or, or_true, false_and, and_false, Int32.neg_neg, Nat.add_zero, Nat.zero_add, Nat.reduceSub, Nat.reduceAdd, Nat.reduceMul, Nat.reduceLeDiff, q_endLook]
          · simp (disch := omega) only [s_lit, s_b0, s_b1, s_b2, s_b3, s_b4, s_b5, s_b6, s_x0, s_x0l, s_t1, s_nm, s_ckT, s_ld, s_st, s_clamp, nI_add, pk_mul, s_sub, s_nad, s_div, s_mod, s_rem2, s_le_t, s_le_f, s_lt_t, s_lt_f, s_eq_t, s_eq_f, s_n1, s_n2, s_n3, s_n4, s_n5, s_n6, s_n7, s_n8, s_n9, s_n10, s_n11, s_n12, s_us, s_un, s_uLs, s_uLn, ↓reduceIte, not_false_eq_true, not_true_eq_false, true_and, and_true, and_self, or_false, false_or, or_self, true_or, or_true, false_and, and_false, Int32.neg_neg, Nat.add_zero, Nat.zero_add, Nat.reduceSub, Nat.reduceAdd, Nat.reduceMul, Nat.reduceLeDiff, ra5, r_setN, X7_choose_J120, e1]
          · rw [pk_un h5, pk_un h4, pk_un h3]
          · simp (disch := omega) only [s_lit, s_b0, s_b1, s_b2, s_b3, s_b4, s_b5, s_b6, s_x0, s_x0l, s_t1, s_nm, s_ckT, s_ld, s_st, s_clamp, nI_add, pk_mul, s_sub, s_nad, s_div, s_mod, s_rem2, s_le_t, s_le_f, s_lt_t, s_lt_f, s_eq_t, s_eq_f, s_n1, s_n2, s_n3, s_n4, s_n5, s_n6, s_n7, s_n8, s_n9, s_n10, s_n11, s_n12, s_us, s_un, s_uLs, s_uLn, ↓reduceIte, not_false_eq_true, not_true_eq_false, true_and, and_true, and_self, or_false, false_or, or_self, true_or, or_true, false_and, and_false, Int32.neg_neg, Nat.add_zero, Nat.zero_add, Nat.reduceSub, Nat.reduceAdd, Nat.reduceMul, Nat.reduceLeDiff]
          · simp (disch := omega) only [s_lit, s_b0, s_b1, s_b2, s_b3, s_b4, s_b5, s_b6, s_x0, s_x0l, s_t1, s_nm, s_ckT, s_ld, s_st, s_clamp, nI_add, pk_mul, s_sub, s_nad, s_div, s_mod, s_rem2, s_le_t, s_le_f, s_lt_t, s_lt_f, s_eq_t, s_eq_f, s_n1, s_n2, s_n3, s_n4, s_n5, s_n6, s_n7, s_n8, s_n9, s_n10, s_n11, s_n12, s_us, s_un, s_uLs, s_uLn, ↓reduceIte, not_false_eq_true, not_true_eq_false, true_and, and_true, and_self, or_false, false_or, or_self, true_or, or_true, false_and, and_false, Int32.neg_neg, Nat.add_zero, Nat.zero_add, Nat.reduceSub, Nat.reduceAdd, Nat.reduceMul, Nat.reduceLeDiff]
          · simp (disch := omega) only [s_lit, s_b0, s_b1, s_b2, s_b3, s_b4, s_b5, s_b6, s_x0, s_x0l, s_t1, s_nm, s_ckT, s_ld, s_st, s_clamp, nI_add, pk_mul, s_sub, s_nad, s_div, s_mod, s_rem2, s_le_t, s_le_f, s_lt_t, s_lt_f, s_eq_t, s_eq_f, s_n1, s_n2, s_n3, s_n4, s_n5, s_n6, s_n7, s_n8, s_n9, s_n10, s_n11, s_n12, s_us, s_un, s_uLs, s_uLn, ↓reduceIte, not_false_eq_true, not_true_eq_false, true_and, and_true, and_self, or_false, false_or, or_self, true_or, or_true, false_and, and_false, Int32.neg_neg, Nat.add_zero, Nat.zero_add, Nat.reduceSub, Nat.reduceAdd, Nat.reduceMul, Nat.reduceLeDiff]
          · simp (disch := omega) only [s_lit, s_b0, s_b1, s_b2, s_b3, s_b4, s_b5, s_b6, s_x0, s_x0l, s_t1, s_nm, s_ckT, s_ld, s_st, s_clamp, nI_add, pk_mul, s_sub, s_nad, s_div, s_mod, s_rem2, s_le_t, s_le_f, s_lt_t, s_lt_f, s_eq_t, s_eq_f, s_n1, s_n2, s_n3, s_n4, s_n5, s_n6, s_n7, s_n8, s_n9, s_n10, s_n11, s_n12, s_us, s_un, s_uLs, s_uLn, ↓reduceIte, not_false_eq_true, not_true_eq_false, true_and, and_true, and_self, or_false, false_or, or_self, true_or, or_true, false_and, and_false, Int32.neg_neg, Nat.add_zero, Nat.zero_add, Nat.reduceSub, Nat.reduceAdd, Nat.reduceMul, Nat.reduceLeDiff]
          · simp (disch := omega) only [s_lit, s_b0, s_b1, s_b2, s_b3, s_b4, s_b5, s_b6, s_x0, s_x0l, s_t1, s_nm, s_ckT, s_ld, s_st, s_clamp, nI_add, pk_mul, s_sub, s_nad, s_div, s_mod, s_rem2, s_le_t, s_le_f, s_lt_t, s_lt_f, s_eq_t, s_eq_f, s_n1, s_n2, s_n3, s_n4, s_n5, s_n6, s_n7, s_n8, s_n9, s_n10, s_n11, s_n12, s_us, s_un, s_uLs, s_uLn, ↓reduceIte, not_false_eq_true, not_true_eq_false, true_and, and_true, and_self, or_false, false_or, or_self, true_or, or_true, false_and, and_false, Int32.neg_neg, Nat.add_zero, Nat.zero_add, Nat.reduceSub, Nat.reduceAdd, Nat.reduceMul, Nat.reduceLeDiff]
          · rw [pk_un h3]
          · simp (disch := omega) only [s_lit, s_b0, s_b1, s_b2, s_b3, s_b4, s_b5, s_b6, s_x0, s_x0l, s_t1, s_nm, s_ckT, s_ld, s_st, s_clamp, nI_add, pk_mul, s_sub, s_nad, s_div, s_mod, s_rem2, s_le_t, s_le_f, s_lt_t, s_lt_f, s_eq_t, s_eq_f, s_n1, s_n2, s_n3, s_n4, s_n5, s_n6, s_n7, s_n8, s_n9, s_n10, s_n11, s_n12, s_us, s_un, s_uLs, s_uLn, ↓reduceIte, not_false_eq_true, not_true_eq_false, true_and, and_true, and_self, or_false, false_or, or_self, true_or, or_true, false_and, and_false, Int32.neg_neg, Nat.add_zero, Nat.zero_add, Nat.reduceSub, Nat.reduceAdd, Nat.reduceMul, Nat.reduceLeDiff, d2']
          · simp (disch := omega) only [s_lit, s_b0, s_b1, s_b2, s_b3, s_b4, s_b5, s_b6, s_x0, s_x0l, s_t1, s_nm, s_ckT, s_ld, s_st, s_clamp, nI_add, pk_mul, s_sub, s_nad, s_div, s_mod, s_rem2, s_le_t, s_le_f, s_lt_t, s_lt_f, s_eq_t, s_eq_f, s_n1, s_n2, s_n3, s_n4, s_n5, s_n6, s_n7, s_n8, s_n9, s_n10, s_n11, s_n12, s_us, s_un, s_uLs, s_uLn, ↓reduceIte, not_false_eq_true, not_true_eq_false, true_and, and_true, and_self, or_false, false_or, or_self, true_or, or_true, false_and, and_false, Int32.neg_neg, Nat.add_zero, Nat.zero_add, Nat.reduceSub, Nat.reduceAdd, Nat.reduceMul, Nat.reduceLeDiff]
          · simp (disch := omega) only [s_lit, s_b0, s_b1, s_b2, s_b3, s_b4, s_b5, s_b6, s_x0, s_x0l, s_t1, s_nm, s_ckT, s_ld, s_st, s_clamp, nI_add, pk_mul, s_sub, s_nad, s_div, s_mod, s_rem2, s_le_t, s_le_f, s_lt_t, s_lt_f, s_eq_t, s_eq_f, s_n1, s_n2, s_n3, s_n4, s_n5, s_n6, s_n7, s_n8, s_n9, s_n10, s_n11, s_n12, s_us, s_un, s_uLs, s_uLn, ↓reduceIte, not_false_eq_true, not_true_eq_false, true_and, and_true, and_self, or_false, false_or, or_self, true_or, or_true, false_and, and_false, Int32.neg_neg, Nat.add_zero, Nat.zero_add, Nat.reduceSub, Nat.reduceAdd, Nat.reduceMul, Nat.reduceLeDiff, d4', f4]
          · simp (disch := omega) only [s_lit, s_b0, s_b1, s_b2, s_b3, s_b4, s_b5, s_b6, s_x0, s_x0l, s_t1, s_nm, s_ckT, s_ld, s_st, s_clamp, nI_add, pk_mul, s_sub, s_nad, s_div, s_mod, s_rem2, s_le_t, s_le_f, s_lt_t, s_lt_f, s_eq_t, s_eq_f, s_n1, s_n2, s_n3, s_n4, s_n5, s_n6, s_n7, s_n8, s_n9, s_n10, s_n11, s_n12, s_us, s_un, s_uLs, s_uLn, ↓reduceIte, not_false_eq_true, not_true_eq_false, true_and, and_true, and_self, or_false, false_or, or_self, true_or, or_true, false_and, and_false, Int32.neg_neg, Nat.add_zero, Nat.zero_add, Nat.reduceSub, Nat.reduceAdd, Nat.reduceMul, Nat.reduceLeDiff, d5', f5]
          · simp (disch := omega) only [s_lit, s_b0, s_b1, s_b2, s_b3, s_b4, s_b5, s_b6, s_x0, s_x0l, s_t1, s_nm, s_ckT, s_ld, s_st, s_clamp, nI_add, pk_mul, s_sub, s_nad, s_div, s_mod, s_rem2, s_le_t, s_le_f, s_lt_t, s_lt_f, s_eq_t, s_eq_f, s_n1, s_n2, s_n3, s_n4, s_n5, s_n6, s_n7, s_n8, s_n9, s_n10, s_n11, s_n12, s_us, s_un, s_uLs, s_uLn, ↓reduceIte, not_false_eq_true, not_true_eq_false, true_and, and_true, and_self, or_false, false_or, or_self, true_or, or_true, false_and, and_false, Int32.neg_neg, Nat.add_zero, Nat.zero_add, Nat.reduceSub, Nat.reduceAdd, Nat.reduceMul, Nat.reduceLeDiff, d6']
        · omega
      · have hpe : hp = 1 := by omega
        subst hpe
        rcases L with ⟨e1, e2, e3⟩ | ⟨b, m, hb, hm, e1, e2, e3, e4, -⟩
        · refine ⟨lookers, facts, waiting, prices, data, stack, fc, ?_, ?_, hP, Or.inr (Or.inl ⟨rfl, rfl, rfl, e3 rfl⟩)⟩
          · have hneg : (-nI 1 < nI 0) = True := s_n3 (by omega) (by omega) (by omega)
            simp (disch := omega) only [s_lit, s_b0, s_b1, s_b2, s_b3, s_b4, s_b5, s_b6, s_x0, s_x0l, s_t1, s_nm, s_ckT, s_ld, s_st, s_clamp, nI_add, pk_mul, s_sub, s_nad, s_div, s_mod, s_rem2, s_le_t, s_le_f, s_lt_t, s_lt_f, s_eq_t, s_eq_f, s_n1, s_n2, s_n3, s_n4, s_n5, s_n6, s_n7, s_n8, s_n9, s_n10, s_n11, s_n12, s_us, s_un, s_uLs, s_uLn, ↓reduceIte, not_false_eq_true, not_true_eq_false, true_and, and_true, and_self, or_false, false_or, or_self, true_or, or_true, false_and, and_false, Int32.neg_neg, Nat.add_zero, Nat.zero_add, Nat.reduceSub, Nat.reduceAdd, Nat.reduceMul, Nat.reduceLeDiff, e1, hneg]
          · simp (disch := omega) only [s_lit, s_b0, s_b1, s_b2, s_b3, s_b4, s_b5, s_b6, s_x0, s_x0l, s_t1, s_nm, s_ckT, s_ld, s_st, s_clamp, nI_add, pk_mul, s_sub, s_nad, s_div, s_mod, s_rem2, s_le_t, s_le_f, s_lt_t, s_lt_f, s_eq_t, s_eq_f, s_n1, s_n2, s_n3, s_n4, s_n5, s_n6, s_n7, s_n8, s_n9, s_n10, s_n11, s_n12, s_us, s_un, s_uLs, s_uLn, ↓reduceIte, not_false_eq_true, not_true_eq_false, true_and, and_true, and_self, or_false, false_or, or_self, true_or, or_true, false_and, and_false, Int32.neg_neg, Nat.add_zero, Nat.zero_add, Nat.reduceSub, Nat.reduceAdd, Nat.reduceMul, Nat.reduceLeDiff, ra5, X7_choose_J120, e1]
        · refine ⟨upd lookers b (nI v), upd (upd (upd facts (v * 7 + 3) (nI 1)) (v * 7 + 4) (nI b)) (v * 7 + 5) (nI LL), waiting, prices, upd (upd (upd data (503 + 7 * v + 3) (nI 1)) (503 + 7 * v + 4) (nI b)) (503 + 7 * v + 5) (nI LL), stack, fc, ?_, ?_, hP, Or.inr (Or.inr ⟨b, hb, e4, rfl, ⟨fun m h2 h3 h4 h5 h6 => ?_, ?_, ?_, ?_, ?_, ?_⟩, ⟨fun m h2 h3 h4 h5 h6 => ?_, ?_, ?_, ?_, ?_, ?_⟩⟩)⟩
          · simp (disch := omega) only [s_lit, s_b0, s_b1, s_b2, s_b3, s_b4, s_b5, s_b6, s_x0, s_x0l, s_t1, s_nm, s_ckT, s_ld, s_st, s_clamp, nI_add, pk_mul, s_sub, s_nad, s_div, s_mod, s_rem2, s_le_t, s_le_f, s_lt_t, s_lt_f, s_eq_t, s_eq_f, s_n1, s_n2, s_n3, s_n4, s_n5, s_n6, s_n7, s_n8, s_n9, s_n10, s_n11, s_n12, s_us, s_un, s_uLs, s_uLn, ↓reduceIte, not_false_eq_true, not_true_eq_false, true_and, and_true, and_self, or_false, false_or, or_self, true_or, or_true, false_and, and_false, Int32.neg_neg, Nat.add_zero, Nat.zero_add, Nat.reduceSub, Nat.reduceAdd, Nat.reduceMul, Nat.reduceLeDiff, e1, X1_beginLook, q_setN]
          · simp (disch := omega) only [s_lit, s_b0, s_b1, s_b2, s_b3, s_b4, s_b5, s_b6, s_x0, s_x0l, s_t1, s_nm, s_ckT, s_ld, s_st, s_clamp, nI_add, pk_mul, s_sub, s_nad, s_div, s_mod, s_rem2, s_le_t, s_le_f, s_lt_t, s_lt_f, s_eq_t, s_eq_f, s_n1, s_n2, s_n3, s_n4, s_n5, s_n6, s_n7, s_n8, s_n9, s_n10, s_n11, s_n12, s_us, s_un, s_uLs, s_uLn, ↓reduceIte, not_false_eq_true, not_true_eq_false, true_and, and_true, and_self, or_false, false_or, or_self, true_or, or_true, false_and, and_false, Int32.neg_neg, Nat.add_zero, Nat.zero_add, Nat.reduceSub, Nat.reduceAdd, Nat.reduceMul, Nat.reduceLeDiff, ra5, X7_choose_J120, e1, r_setN, ra6]
          · rw [pk_un h5, pk_un h4, pk_un h3]
          · simp (disch := omega) only [s_lit, s_b0, s_b1, s_b2, s_b3, s_b4, s_b5, s_b6, s_x0, s_x0l, s_t1, s_nm, s_ckT, s_ld, s_st, s_clamp, nI_add, pk_mul, s_sub, s_nad, s_div, s_mod, s_rem2, s_le_t, s_le_f, s_lt_t, s_lt_f, s_eq_t, s_eq_f, s_n1, s_n2, s_n3, s_n4, s_n5, s_n6, s_n7, s_n8, s_n9, s_n10, s_n11, s_n12, s_us, s_un, s_uLs, s_uLn, ↓reduceIte, not_false_eq_true, not_true_eq_false, true_and, and_true, and_self, or_false, false_or, or_self, true_or, or_true, false_and, and_false, Int32.neg_neg, Nat.add_zero, Nat.zero_add, Nat.reduceSub, Nat.reduceAdd, Nat.reduceMul, Nat.reduceLeDiff]
          · simp (disch := omega) only [s_lit, s_b0, s_b1, s_b2, s_b3, s_b4, s_b5, s_b6, s_x0, s_x0l, s_t1, s_nm, s_ckT, s_ld, s_st, s_clamp, nI_add, pk_mul, s_sub, s_nad, s_div, s_mod, s_rem2, s_le_t, s_le_f, s_lt_t, s_lt_f, s_eq_t, s_eq_f, s_n1, s_n2, s_n3, s_n4, s_n5, s_n6, s_n7, s_n8, s_n9, s_n10, s_n11, s_n12, s_us, s_un, s_uLs, s_uLn, ↓reduceIte, not_false_eq_true, not_true_eq_false, true_and, and_true, and_self, or_false, false_or, or_self, true_or, or_true, false_and, and_false, Int32.neg_neg, Nat.add_zero, Nat.zero_add, Nat.reduceSub, Nat.reduceAdd, Nat.reduceMul, Nat.reduceLeDiff]
          · simp (disch := omega) only [s_lit, s_b0, s_b1, s_b2, s_b3, s_b4, s_b5, s_b6, s_x0, s_x0l, s_t1, s_nm, s_ckT, s_ld, s_st, s_clamp, nI_add, pk_mul, s_sub, s_nad, s_div, s_mod, s_rem2, s_le_t, s_le_f, s_lt_t, s_lt_f, s_eq_t, s_eq_f, s_n1, s_n2, s_n3, s_n4, s_n5, s_n6, s_n7, s_n8, s_n9, s_n10, s_n11, s_n12, s_us, s_un, s_uLs, s_uLn, ↓reduceIte, not_false_eq_true, not_true_eq_false, true_and, and_true, and_self, or_false, false_or, or_self, true_or, or_true, false_and, and_false, Int32.neg_neg, Nat.add_zero, Nat.zero_add, Nat.reduceSub, Nat.reduceAdd, Nat.reduceMul, Nat.reduceLeDiff]
          · simp (disch := omega) only [s_lit, s_b0, s_b1, s_b2, s_b3, s_b4, s_b5, s_b6, s_x0, s_x0l, s_t1, s_nm, s_ckT, s_ld, s_st, s_clamp, nI_add, pk_mul, s_sub, s_nad, s_div, s_mod, s_rem2, s_le_t, s_le_f, s_lt_t, s_lt_f, s_eq_t, s_eq_f, s_n1, s_n2, s_n3, s_n4, s_n5, s_n6, s_n7, s_n8, s_n9, s_n10, s_n11, s_n12, s_us, s_un, s_uLs, s_uLn, ↓reduceIte, not_false_eq_true, not_true_eq_false, true_and, and_true, and_self, or_false, false_or, or_self, true_or, or_true, false_and, and_false, Int32.neg_neg, Nat.add_zero, Nat.zero_add, Nat.reduceSub, Nat.reduceAdd, Nat.reduceMul, Nat.reduceLeDiff]
          · simp (disch := omega) only [s_lit, s_b0, s_b1, s_b2, s_b3, s_b4, s_b5, s_b6, s_x0, s_x0l, s_t1, s_nm, s_ckT, s_ld, s_st, s_clamp, nI_add, pk_mul, s_sub, s_nad, s_div, s_mod, s_rem2, s_le_t, s_le_f, s_lt_t, s_lt_f, s_eq_t, s_eq_f, s_n1, s_n2, s_n3, s_n4, s_n5, s_n6, s_n7, s_n8, s_n9, s_n10, s_n11, s_n12, s_us, s_un, s_uLs, s_uLn, ↓reduceIte, not_false_eq_true, not_true_eq_false, true_and, and_true, and_self, or_false, false_or, or_self, true_or, or_true, false_and, and_false, Int32.neg_neg, Nat.add_zero, Nat.zero_add, Nat.reduceSub, Nat.reduceAdd, Nat.reduceMul, Nat.reduceLeDiff]
          · rw [pk_un h5, pk_un h4, pk_un h3]
          · simp (disch := omega) only [s_lit, s_b0, s_b1, s_b2, s_b3, s_b4, s_b5, s_b6, s_x0, s_x0l, s_t1, s_nm, s_ckT, s_ld, s_st, s_clamp, nI_add, pk_mul, s_sub, s_nad, s_div, s_mod, s_rem2, s_le_t, s_le_f, s_lt_t, s_lt_f, s_eq_t, s_eq_f, s_n1, s_n2, s_n3, s_n4, s_n5, s_n6, s_n7, s_n8, s_n9, s_n10, s_n11, s_n12, s_us, s_un, s_uLs, s_uLn, ↓reduceIte, not_false_eq_true, not_true_eq_false, true_and, and_true, and_self, or_false, false_or, or_self, true_or, or_true, false_and, and_false, Int32.neg_neg, Nat.add_zero, Nat.zero_add, Nat.reduceSub, Nat.reduceAdd, Nat.reduceMul, Nat.reduceLeDiff, d2']
          · simp (disch := omega) only [s_lit, s_b0, s_b1, s_b2, s_b3, s_b4, s_b5, s_b6, s_x0, s_x0l, s_t1, s_nm, s_ckT, s_ld, s_st, s_clamp, nI_add, pk_mul, s_sub, s_nad, s_div, s_mod, s_rem2, s_le_t, s_le_f, s_lt_t, s_lt_f, s_eq_t, s_eq_f, s_n1, s_n2, s_n3, s_n4, s_n5, s_n6, s_n7, s_n8, s_n9, s_n10, s_n11, s_n12, s_us, s_un, s_uLs, s_uLn, ↓reduceIte, not_false_eq_true, not_true_eq_false, true_and, and_true, and_self, or_false, false_or, or_self, true_or, or_true, false_and, and_false, Int32.neg_neg, Nat.add_zero, Nat.zero_add, Nat.reduceSub, Nat.reduceAdd, Nat.reduceMul, Nat.reduceLeDiff]
          · simp (disch := omega) only [s_lit, s_b0, s_b1, s_b2, s_b3, s_b4, s_b5, s_b6, s_x0, s_x0l, s_t1, s_nm, s_ckT, s_ld, s_st, s_clamp, nI_add, pk_mul, s_sub, s_nad, s_div, s_mod, s_rem2, s_le_t, s_le_f, s_lt_t, s_lt_f, s_eq_t, s_eq_f, s_n1, s_n2, s_n3, s_n4, s_n5, s_n6, s_n7, s_n8, s_n9, s_n10, s_n11, s_n12, s_us, s_un, s_uLs, s_uLn, ↓reduceIte, not_false_eq_true, not_true_eq_false, true_and, and_true, and_self, or_false, false_or, or_self, true_or, or_true, false_and, and_false, Int32.neg_neg, Nat.add_zero, Nat.zero_add, Nat.reduceSub, Nat.reduceAdd, Nat.reduceMul, Nat.reduceLeDiff]
          · simp (disch := omega) only [s_lit, s_b0, s_b1, s_b2, s_b3, s_b4, s_b5, s_b6, s_x0, s_x0l, s_t1, s_nm, s_ckT, s_ld, s_st, s_clamp, nI_add, pk_mul, s_sub, s_nad, s_div, s_mod, s_rem2, s_le_t, s_le_f, s_lt_t, s_lt_f, s_eq_t, s_eq_f, s_n1, s_n2, s_n3, s_n4, s_n5, s_n6, s_n7, s_n8, s_n9, s_n10, s_n11, s_n12, s_us, s_un, s_uLs, s_uLn, ↓reduceIte, not_false_eq_true, not_true_eq_false, true_and, and_true, and_self, or_false, false_or, or_self, true_or, or_true, false_and, and_false, Int32.neg_neg, Nat.add_zero, Nat.zero_add, Nat.reduceSub, Nat.reduceAdd, Nat.reduceMul, Nat.reduceLeDiff]
          · simp (disch := omega) only [s_lit, s_b0, s_b1, s_b2, s_b3, s_b4, s_b5, s_b6, s_x0, s_x0l, s_t1, s_nm, s_ckT, s_ld, s_st, s_clamp, nI_add, pk_mul, s_sub, s_nad, s_div, s_mod, s_rem2, s_le_t, s_le_f, s_lt_t, s_lt_f, s_eq_t, s_eq_f, s_n1, s_n2, s_n3, s_n4, s_n5, s_n6, s_n7, s_n8, s_n9, s_n10, s_n11, s_n12, s_us, s_un, s_uLs, s_uLn, ↓reduceIte, not_false_eq_true, not_true_eq_false, true_and, and_true, and_self, or_false, false_or, or_self, true_or, or_true, false_and, and_false, Int32.neg_neg, Nat.add_zero, Nat.zero_add, Nat.reduceSub, Nat.reduceAdd, Nat.reduceMul, Nat.reduceLeDiff, d6']
    · have hi' : i < HN := by omega
      have hcan := q_canUse hI rI holeY (facts (v * 7)) (show i < 4 by omega)
      have rcan := r_canUse (data := data) (show v < 20 by omega) ra3 ra4 (ra2 i hi')
      rw [d0'] at rcan
      by_cases u : useV hI rI (holeY i) (facts (v * 7)) = nI 0
      · obtain ⟨l1, g1, w1, p1, dd, s1, h1, k1, k2, k3⟩ := chooseL A ⟨ra1, ra2, ra3, ra4, ra5, ra6, ra7⟩ hV hH R I hv hq hc f1 f2 f3 f4 f5 fuel (i + 1) hp best mc mr waiting prices stack fc (by omega) (by omega) ⟨hp1, L⟩ hP
        refine ⟨l1, g1, w1, p1, dd, s1, h1, ?_, ?_, k3⟩
        · simp (disch := omega) only [s_lit, s_b0, s_b1, s_b2, s_b3, s_b4, s_b5, s_b6, s_x0, s_x0l, s_t1, s_nm, s_ckT, s_ld, s_st, s_clamp, nI_add, pk_mul, s_sub, s_nad, s_div, s_mod, s_rem2, s_le_t, s_le_f, s_lt_t, s_lt_f, s_eq_t, s_eq_f, s_n1, s_n2, s_n3, s_n4, s_n5, s_n6, s_n7, s_n8, s_n9, s_n10, s_n11, s_n12, s_us, s_un, s_uLs, s_uLn, ↓reduceIte, not_false_eq_true, not_true_eq_false, true_and, and_true, and_self, or_false, false_or, or_self, true_or, or_true, false_and, and_false, Int32.neg_neg, Nat.add_zero, Nat.zero_add, Nat.reduceSub, Nat.reduceAdd, Nat.reduceMul, Nat.reduceLeDiff, q_factN, hcan, u, X1_choose_J106]
          exact k1
        · simp (disch := omega) only [s_lit, s_b0, s_b1, s_b2, s_b3, s_b4, s_b5, s_b6, s_x0, s_x0l, s_t1, s_nm, s_ckT, s_ld, s_st, s_clamp, nI_add, pk_mul, s_sub, s_nad, s_div, s_mod, s_rem2, s_le_t, s_le_f, s_lt_t, s_lt_f, s_eq_t, s_eq_f, s_n1, s_n2, s_n3, s_n4, s_n5, s_n6, s_n7, s_n8, s_n9, s_n10, s_n11, s_n12, s_us, s_un, s_uLs, s_uLn, ↓reduceIte, not_false_eq_true, not_true_eq_false, true_and, and_true, and_self, or_false, false_or, or_self, true_or, or_true, false_and, and_false, Int32.neg_neg, Nat.add_zero, Nat.zero_add, Nat.reduceSub, Nat.reduceAdd, Nat.reduceMul, Nat.reduceLeDiff, ra5, rcan, u, X7_choose_J102]
          exact k2
      · obtain ⟨p1, w1, hp1', hp2⟩ := A.1 i hi' q hq prices waiting (hP i hi' q hq)
        obtain ⟨cc, cb, pb⟩ := A.2 i hi' q hq
        obtain ⟨s1, h1, hr1⟩ := (ra1 i hi' q hq).1 stack fc
        have hsh := (ra1 i hi' q hq).2
        have hlk := r_lookerAt hV R I ra7 hi' hH
        have hP1 := hP.put hq hp2
        by_cases cp : Pf i q ≤ c
        · -- the viewer can pay: hope; perhaps the best one
          by_cases lk : lookers i = -nI 1
          · by_cases better : best = -nI 1 ∨ ∃ b m, best = nI b ∧ mc = nI m ∧ m < Cf i q
            · obtain ⟨l1, g1, w2, p2, dd, s2, h2, k1, k2, k3⟩ := chooseL A ⟨ra1, ra2, ra3, ra4, ra5, ra6, ra7⟩ hV hH R I hv hq hc f1 f2 f3 f4 f5 fuel (i + 1) 1 (nI i) (nI (Cf i q)) (nI (Cf i q)) w1 p1 s1 h1 (by omega) (by omega) ⟨by omega, Or.inr ⟨i, Cf i q, hi', cb, rfl, rfl, rfl, lk, rfl⟩⟩ hP1
              refine ⟨l1, g1, w2, p2, dd, s2, h2, ?_, ?_, k3⟩
              · rcases L with ⟨e1, e2, -⟩ | ⟨b, m, hb, hm, e1, e2, e3, e4, e5⟩
                · simp (disch := omega) only [s_lit, s_b0, s_b1, s_b2, s_b3, s_b4, s_b5, s_b6, s_x0, s_x0l, s_t1, s_nm, s_ckT, s_ld, s_st, s_clamp, nI_add, pk_mul, s_sub, s_nad, s_div, s_mod, s_rem2, s_le_t, s_le_f, s_lt_t, s_lt_f, s_eq_t, s_eq_f, s_n1, s_n2, s_n3, s_n4, s_n5, s_n6, s_n7, s_n8, s_n9, s_n10, s_n11, s_n12, s_us, s_un, s_uLs, s_uLn, ↓reduceIte, not_false_eq_true, not_true_eq_false, true_and, and_true, and_self, or_false, false_or, or_self, true_or, or_true, false_and, and_false, Int32.neg_neg, Nat.add_zero, Nat.zero_add, Nat.reduceSub, Nat.reduceAdd, Nat.reduceMul, Nat.reduceLeDiff, q_factN, hcan, u, hp1', f2, cc, lk, e2, X1_choose_J106]
                  exact k1
                · have hlt : m < Cf i q := by
                    rcases better with z | ⟨b', m', z1, z2, z3⟩
                    · rw [e1] at z
                      simp (disch := omega) only [s_n5] at z
                    · rw [e2] at z2
                      rw [(nI_eq (by omega) (by omega)).mp z2]; exact z3
                  simp (disch := omega) only [s_lit, s_b0, s_b1, s_b2, s_b3, s_b4, s_b5, s_b6, s_x0, s_x0l, s_t1, s_nm, s_ckT, s_ld, s_st, s_clamp, nI_add, pk_mul, s_sub, s_nad, s_div, s_mod, s_rem2, s_le_t, s_le_f, s_lt_t, s_lt_f, s_eq_t, s_eq_f, s_n1, s_n2, s_n3, s_n4, s_n5, s_n6, s_n7, s_n8, s_n9, s_n10, s_n11, s_n12, s_us, s_un, s_uLs, s_uLn, ↓reduceIte, not_false_eq_true, not_true_eq_false, true_and, and_true, and_self, or_false, false_or, or_self, true_or, or_true, false_and, and_false, Int32.neg_neg, Nat.add_zero, Nat.zero_add, Nat.reduceSub, Nat.reduceAdd, Nat.reduceMul, Nat.reduceLeDiff, q_factN, hcan, u, hp1', f2, cc, lk, e2, X1_choose_J106]
                  exact k1
              · rcases L with ⟨e1, e2, -⟩ | ⟨b, m, hb, hm, e1, e2, e3, e4, e5⟩
                · simp (disch := omega) only [s_lit, s_b0, s_b1, s_b2, s_b3, s_b4, s_b5, s_b6, s_x0, s_x0l, s_t1, s_nm, s_ckT, s_ld, s_st, s_clamp, nI_add, pk_mul, s_sub, s_nad, s_div, s_mod, s_rem2, s_le_t, s_le_f, s_lt_t, s_lt_f, s_eq_t, s_eq_f, s_n1, s_n2, s_n3, s_n4, s_n5, s_n6, s_n7, s_n8, s_n9, s_n10, s_n11, s_n12, s_us, s_un, s_uLs, s_uLn, ↓reduceIte, not_false_eq_true, not_true_eq_false, true_and, and_true, and_self, or_false, false_or, or_self, true_or, or_true, false_and, and_false, Int32.neg_neg, Nat.add_zero, Nat.zero_add, Nat.reduceSub, Nat.reduceAdd, Nat.reduceMul, Nat.reduceLeDiff, ra5, rcan, u, r_ofN, d1', f1, hr1, d2', f2, hsh, hlk, lk, e1, X7_choose_J96, X7_choose_J102]
                  exact k2
                · have hlt : m < Cf i q := by
                    rcases better with z | ⟨b', m', z1, z2, z3⟩
                    · rw [e1] at z
                      simp (disch := omega) only [s_n5] at z
                    · rw [e2] at z2
                      rw [(nI_eq (by omega) (by omega)).mp z2]; exact z3
                  simp (disch := omega) only [s_lit, s_b0, s_b1, s_b2, s_b3, s_b4, s_b5, s_b6, s_x0, s_x0l, s_t1, s_nm, s_ckT, s_ld, s_st, s_clamp, nI_add, pk_mul, s_sub, s_nad, s_div, s_mod, s_rem2, s_le_t, s_le_f, s_lt_t, s_lt_f, s_eq_t, s_eq_f, s_n1, s_n2, s_n3, s_n4, s_n5, s_n6, s_n7, s_n8, s_n9, s_n10, s_n11, s_n12, s_us, s_un, s_uLs, s_uLn, ↓reduceIte, not_false_eq_true, not_true_eq_false, true_and, and_true, and_self, or_false, false_or, or_self, true_or, or_true, false_and, and_false, Int32.neg_neg, Nat.add_zero, Nat.zero_add, Nat.reduceSub, Nat.reduceAdd, Nat.reduceMul, Nat.reduceLeDiff, ra5, rcan, u, r_ofN, d1', f1, hr1, d2', f2, hsh, hlk, lk, e1, e3, X7_choose_J96, X7_choose_J102]
                  exact k2
            · rcases L with ⟨e1, -, -⟩ | ⟨b, m, hb, hm, e1, e2, e3, e4, e5⟩
              · exact absurd (Or.inl e1) better
              · have hge : Cf i q ≤ m := Nat.le_of_not_lt (fun z => better (Or.inr ⟨b, m, e1, e2, z⟩))
                obtain ⟨l1, g1, w2, p2, dd, s2, h2, k1, k2, k3⟩ := chooseL A ⟨ra1, ra2, ra3, ra4, ra5, ra6, ra7⟩ hV hH R I hv hq hc f1 f2 f3 f4 f5 fuel (i + 1) 1 best mc mr w1 p1 s1 h1 (by omega) (by omega) ⟨by omega, Or.inr ⟨b, m, hb, hm, e1, e2, e3, e4, rfl⟩⟩ hP1
                refine ⟨l1, g1, w2, p2, dd, s2, h2, ?_, ?_, k3⟩
                · rw [e1, e2] at k1
                  simp (disch := omega) only [s_lit, s_b0, s_b1, s_b2, s_b3, s_b4, s_b5, s_b6, s_x0, s_x0l, s_t1, s_nm, s_ckT, s_ld, s_st, s_clamp, nI_add, pk_mul, s_sub, s_nad, s_div, s_mod, s_rem2, s_le_t, s_le_f, s_lt_t, s_lt_f, s_eq_t, s_eq_f, s_n1, s_n2, s_n3, s_n4, s_n5, s_n6, s_n7, s_n8, s_n9, s_n10, s_n11, s_n12, s_us, s_un, s_uLs, s_uLn, ↓reduceIte, not_false_eq_true, not_true_eq_false, true_and, and_true, and_self, or_false, false_or, or_self, true_or, or_true, false_and, and_false, Int32.neg_neg, Nat.add_zero, Nat.zero_add, Nat.reduceSub, Nat.reduceAdd, Nat.reduceMul, Nat.reduceLeDiff, q_factN, hcan, u, hp1', f2, cc, lk, e1, e2, X1_choose_J106]
                  exact k1
                · rw [e1, e3] at k2
                  simp (disch := omega) only [s_lit, s_b0, s_b1, s_b2, s_b3, s_b4, s_b5, s_b6, s_x0, s_x0l, s_t1, s_nm, s_ckT, s_ld, s_st, s_clamp, nI_add, pk_mul, s_sub, s_nad, s_div, s_mod, s_rem2, s_le_t, s_le_f, s_lt_t, s_lt_f, s_eq_t, s_eq_f, s_n1, s_n2, s_n3, s_n4, s_n5, s_n6, s_n7, s_n8, s_n9, s_n10, s_n11, s_n12, s_us, s_un, s_uLs, s_uLn, ↓reduceIte, not_false_eq_true, not_true_eq_false, true_and, and_true, and_self, or_false, false_or, or_self, true_or, or_true, false_and, and_false, Int32.neg_neg, Nat.add_zero, Nat.zero_add, Nat.reduceSub, Nat.reduceAdd, Nat.reduceMul, Nat.reduceLeDiff, ra5, rcan, u, r_ofN, d1', f1, hr1, d2', f2, hsh, hlk, lk, e1, e3, X7_choose_J96, X7_choose_J102]
                  exact k2
          · obtain ⟨l1, g1, w2, p2, dd, s2, h2, k1, k2, k3⟩ := chooseL A ⟨ra1, ra2, ra3, ra4, ra5, ra6, ra7⟩ hV hH R I hv hq hc f1 f2 f3 f4 f5 fuel (i + 1) 1 best mc mr w1 p1 s1 h1 (by omega) (by omega) ⟨by omega, by
              rcases L with ⟨e1, e2, -⟩ | ⟨b, m, hb, hm, e1, e2, e3, e4, e5⟩
              · exact Or.inl ⟨e1, e2, fun _ => ⟨i, hi', lk⟩⟩
              · exact Or.inr ⟨b, m, hb, hm, e1, e2, e3, e4, rfl⟩⟩ hP1
            refine ⟨l1, g1, w2, p2, dd, s2, h2, ?_, ?_, k3⟩
            · simp (disch := omega) only [s_lit, s_b0, s_b1, s_b2, s_b3, s_b4, s_b5, s_b6, s_x0, s_x0l, s_t1, s_nm, s_ckT, s_ld, s_st, s_clamp, nI_add, pk_mul, s_sub, s_nad, s_div, s_mod, s_rem2, s_le_t, s_le_f, s_lt_t, s_lt_f, s_eq_t, s_eq_f, s_n1, s_n2, s_n3, s_n4, s_n5, s_n6, s_n7, s_n8, s_n9, s_n10, s_n11, s_n12, s_us, s_un, s_uLs, s_uLn, ↓reduceIte, not_false_eq_true, not_true_eq_false, true_and, and_true, and_self, or_false, false_or, or_self, true_or, or_true, false_and, and_false, Int32.neg_neg, Nat.add_zero, Nat.zero_add, Nat.reduceSub, Nat.reduceAdd, Nat.reduceMul, Nat.reduceLeDiff, q_factN, hcan, u, hp1', f2, cc, lk, X1_choose_J106]
              exact k1
            · simp (disch := omega) only [s_lit, s_b0, s_b1, s_b2, s_b3, s_b4, s_b5, s_b6, s_x0, s_x0l, s_t1, s_nm, s_ckT, s_ld, s_st, s_clamp, nI_add, pk_mul, s_sub, s_nad, s_div, s_mod, s_rem2, s_le_t, s_le_f, s_lt_t, s_lt_f, s_eq_t, s_eq_f, s_n1, s_n2, s_n3, s_n4, s_n5, s_n6, s_n7, s_n8, s_n9, s_n10, s_n11, s_n12, s_us, s_un, s_uLs, s_uLn, ↓reduceIte, not_false_eq_true, not_true_eq_false, true_and, and_true, and_self, or_false, false_or, or_self, true_or, or_true, false_and, and_false, Int32.neg_neg, Nat.add_zero, Nat.zero_add, Nat.reduceSub, Nat.reduceAdd, Nat.reduceMul, Nat.reduceLeDiff, ra5, rcan, u, r_ofN, d1', f1, hr1, d2', f2, hsh, hlk, lk, X7_choose_J96, X7_choose_J102]
              exact k2
        · obtain ⟨l1, g1, w2, p2, dd, s2, h2, k1, k2, k3⟩ := chooseL A ⟨ra1, ra2, ra3, ra4, ra5, ra6, ra7⟩ hV hH R I hv hq hc f1 f2 f3 f4 f5 fuel (i + 1) hp best mc mr w1 p1 s1 h1 (by omega) (by omega) ⟨hp1, L⟩ hP1
          refine ⟨l1, g1, w2, p2, dd, s2, h2, ?_, ?_, k3⟩
          · simp (disch := omega) only [s_lit, s_b0, s_b1, s_b2, s_b3, s_b4, s_b5, s_b6, s_x0, s_x0l, s_t1, s_nm, s_ckT, s_ld, s_st, s_clamp, nI_add, pk_mul, s_sub, s_nad, s_div, s_mod, s_rem2, s_le_t, s_le_f, s_lt_t, s_lt_f, s_eq_t, s_eq_f, s_n1, s_n2, s_n3, s_n4, s_n5, s_n6, s_n7, s_n8, s_n9, s_n10, s_n11, s_n12, s_us, s_un, s_uLs, s_uLn, ↓reduceIte, not_false_eq_true, not_true_eq_false, true_and, and_true, and_self, or_false, false_or, or_self, true_or, or_true, false_and, and_false, Int32.neg_neg, Nat.add_zero, Nat.zero_add, Nat.reduceSub, Nat.reduceAdd, Nat.reduceMul, Nat.reduceLeDiff, q_factN, hcan, u, hp1', f2, X1_choose_J106]
            exact k1
          · simp (disch := omega) only [s_lit, s_b0, s_b1, s_b2, s_b3, s_b4, s_b5, s_b6, s_x0, s_x0l, s_t1, s_nm, s_ckT, s_ld, s_st, s_clamp, nI_add, pk_mul, s_sub, s_nad, s_div, s_mod, s_rem2, s_le_t, s_le_f, s_lt_t, s_lt_f, s_eq_t, s_eq_f, s_n1, s_n2, s_n3, s_n4, s_n5, s_n6, s_n7, s_n8, s_n9, s_n10, s_n11, s_n12, s_us, s_un, s_uLs, s_uLn, ↓reduceIte, not_false_eq_true, not_true_eq_false, true_and, and_true, and_self, or_false, false_or, or_self, true_or, or_true, false_and, and_false, Int32.neg_neg, Nat.add_zero, Nat.zero_add, Nat.reduceSub, Nat.reduceAdd, Nat.reduceMul, Nat.reduceLeDiff, ra5, rcan, u, r_ofN, d1', f1, hr1, d2', f2, X7_choose_J102]
            exact k2
