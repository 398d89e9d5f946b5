/-! PHASE 2: planes of a setup text, line by line -/
def z0 : Nat → Nat := fun _ => 0
/-- both sides' cells are the same; the reference's other cells are left -/
def LineR (w h n : Nat) (d0 cells d : Nat → Int32) : Prop := KBox w h n cells z0 ∧ (∀ p, p < n → ∀ y, y < h → ∀ x, x < w → d (15 + 96 * p + w * y + x) = cells (p * 96 + y * 12 + x)) ∧ ∀ j, (j < 15 ∨ 495 ≤ j) → d j = d0 j
theorem wy_lt {w h x y : Nat} (hx : x < w) (hy : y < h) (hw : w ≤ 12) (hh : h ≤ 8) : w * y + x < 96 := by
  have h1 : (y + 1) * w ≤ h * w := Nat.mul_le_mul_right w hy
  have h2 : h * w ≤ 8 * 12 := Nat.mul_le_mul hh hw
  rw [Nat.succ_mul] at h1
  rw [Nat.mul_comm w y]
  omega
theorem wy_inj {w x y x' y' : Nat} (hx : x < w) (hx' : x' < w) (h : w * y + x = w * y' + x') : y = y' ∧ x = x' := by
  rw [Nat.mul_comm w y, Nat.mul_comm w y'] at h
  have h1 := tgt_x (y := y) hx
  have h2 := tgt_y (y := y) hx
  rw [h, tgt_x hx'] at h1
  rw [h, tgt_y hx'] at h2
  exact ⟨h2.symm, h1.symm⟩
theorem LineR.put {w h n : Nat} {d0 cells d : Nat → Int32} (L : LineR w h n d0 cells d) (hw : w ≤ 12) (hh : h ≤ 8) (hn : n ≤ 5) {p x y : Nat} (hp : p < n) (hy : y < h) (hx : x < w) {v : Int32} (hv : (v = -nI 1 ∧ p ≠ n - 1) ∨ ∃ k, k < 26 ∧ v = nI k) : LineR w h n d0 (upd cells (p * 96 + y * 12 + x) v) (upd d (15 + 96 * p + w * y + x) v) := by
  obtain ⟨⟨k1, k2, k3⟩, l2, l3⟩ := L
  have hb := wy_lt hx hy hw hh
  refine ⟨⟨fun q hq y' hy' x' hx' => ?_, fun y' hy' x' hx' => ?_, k3⟩, fun q hq y' hy' x' hx' => ?_, fun j hj => ?_⟩
  · by_cases e : q * 96 + y' * 12 + x' = p * 96 + y * 12 + x
    · rw [e, pk_us]
      rcases hv with ⟨h1, -⟩ | h1
      · exact Or.inl h1
      · exact Or.inr h1
    · rw [pk_un e]; exact k1 q hq y' hy' x' hx'
  · by_cases e : (n - 1) * 96 + y' * 12 + x' = p * 96 + y * 12 + x
    · rw [e, pk_us]
      rcases hv with ⟨-, h1⟩ | ⟨k, h1, h2⟩
      · exact absurd (show p = n - 1 by omega) h1
      · rw [h2]; exact ne_m1 h1
    · rw [pk_un e]; exact k2 y' hy' x' hx'
  · have hb' := wy_lt hx' hy' hw hh
    by_cases e : q = p ∧ y' = y ∧ x' = x
    · obtain ⟨e1, e2, e3⟩ := e
      rw [e1, e2, e3, pk_us, pk_us]
    · have e1 : ¬ q * 96 + y' * 12 + x' = p * 96 + y * 12 + x := by omega
      have e2 : ¬ 15 + 96 * q + w * y' + x' = 15 + 96 * p + w * y + x := fun z => by
        have hq : q = p := by omega
        have := wy_inj hx' hx (show w * y' + x' = w * y + x by omega)
        exact e ⟨hq, this.1, this.2⟩
      rw [pk_un e1, pk_un e2]
      exact l2 q hq y' hy' x' hx'
  · rw [pk_un (by omega)]; exact l3 j hj
section LINE
variable {E : Nat} {bytes buffer : Nat → Int32} {tx : Nat → Nat}
theorem q_setKind (cells : Nat → Int32) {p x y : Nat} {v : Int32} (hp : p < 5) (hx : x < 12) (hy : y < 8) : X0_setKind cells (nI p) (nI x) (nI y) v = some (upd cells (p * 96 + y * 12 + x) v) := by
  unfold X0_setKind
  simp (disch := omega) only [s_lit, s_b0, s_b1, s_b2, s_b3, s_b4, s_b5, s_b6, s_x0, s_x0l, s_t1, s_nm, s_ckT, s_ld, s_st, s_clamp, nI_add, pk_mul, s_sub, s_nad, s_div, s_mod, s_rem2, s_le_t, s_le_f, s_lt_t, s_lt_f, s_eq_t, s_eq_f, s_n1, s_n2, s_n3, s_n4, s_n5, s_n6, s_n7, s_n8, s_n9, s_n10, s_n11, s_n12, s_us, s_un, s_uLs, s_uLn, ↓reduceIte, not_false_eq_true, not_true_eq_false, true_and, and_true, and_self, or_false, false_or, or_self, true_or, or_true, false_and, and_false, Int32.neg_neg, Nat.add_zero, Nat.zero_add, Nat.reduceSub, Nat.reduceAdd, Nat.reduceMul, Nat.reduceLeDiff]
theorem ne_err {k : Nat} (h2 : 2 ≤ k) (h6 : k ≤ 6) : X7_isGood (-nI k) = some (nI 0) := by
  unfold X7_isGood
  simp (disch := omega) only [s_lit, s_b0, s_b1, s_b2, s_b3, s_b4, s_b5, s_b6, s_x0, s_x0l, s_t1, s_nm, s_ckT, s_ld, s_st, s_clamp, nI_add, pk_mul, s_sub, s_nad, s_div, s_mod, s_rem2, s_le_t, s_le_f, s_lt_t, s_lt_f, s_eq_t, s_eq_f, s_n1, s_n2, s_n3, s_n4, s_n5, s_n6, s_n7, s_n8, s_n9, s_n10, s_n11, s_n12, s_us, s_un, s_uLs, s_uLn, ↓reduceIte, not_false_eq_true, not_true_eq_false, true_and, and_true, and_self, or_false, false_or, or_self, true_or, or_true, false_and, and_false, Int32.neg_neg, Nat.add_zero, Nat.zero_add, Nat.reduceSub, Nat.reduceAdd, Nat.reduceMul, Nat.reduceLeDiff]
theorem lnB_t {t : Nat} (h : lnB t = true) : t = 46 ∨ (97 ≤ t ∧ t ≤ 122) := by
  unfold lnB at h
  rw [Bool.or_eq_true] at h
  rcases h with h | h
  · exact Or.inl (of_decide_eq_true h)
  · exact Or.inr (ltB_t h)
theorem t_lineX (T : Txt E bytes buffer tx) {w h n p y st : Nat} (hw : w ≤ 12) (hh : h ≤ 8) (hn : n ≤ 5) (hp : p < n) (hy : y < h) (hE : st + w ≤ E) (hl : ∀ k, k < w → lnB (tx (st + k)) = true) {d0 : Nat → Int32} (d2 : d0 2 = nI n) : ∀ (fuel x : Nat) (cells d : Nat → Int32), w - x < fuel → x ≤ w → LineR w h n d0 cells d →
    (∃ c1 d1, X3_readLine_L95 (nI 0) (-nI 1) (nI E) (nI w) (nI n) bytes (nI p) (nI y) fuel (nI st) (nI x) (nI (st + w)) cells = some (nI 1, nI 0, -nI 1, nI (st + w), c1) ∧ X7_readLine_L82 (nI E) buffer (nI p) (nI y) fuel (nI st) (nI w) (nI w) (nI x) (nI st) (nI 0) (-nI 1) d = some (nI (st + w), nI 0, -nI 1, d1) ∧ LineR w h n d0 c1 d1) ∨
    ∃ of a c1 b d1, X3_readLine_L95 (nI 0) (-nI 1) (nI E) (nI w) (nI n) bytes (nI p) (nI y) fuel (nI st) (nI x) (nI (st + w)) cells = some (nI 0, -nI 4, nI of, a, c1) ∧ X7_readLine_L82 (nI E) buffer (nI p) (nI y) fuel (nI st) (nI w) (nI w) (nI x) (nI st) (nI 0) (-nI 1) d = some (b, -nI 4, nI of, d1) ∧ ∀ j, (j < 15 ∨ 495 ≤ j) → d1 j = d0 j
  | 0, x, _, _, h0, _, _ => absurd h0 (Nat.not_lt_zero _)
  | fuel + 1, x, cells, d, h0, hx, L => by
    have hE8 := T.1
    have hg : X7_isGood (nI 0) = some (nI 1) := rfl
    rw [X3_readLine_L95, X7_readLine_L82]
    by_cases e : x = w
    · subst e
      exact Or.inl ⟨cells, d, by simp (disch := omega) only [s_lit, s_b0, s_b1, s_b2, s_b3, s_b4, s_b5, s_b6, s_x0, s_x0l, s_t1, s_nm, s_ckT, s_ld, s_st, s_clamp, nI_add, pk_mul, s_sub, s_nad, s_div, s_mod, s_rem2, s_le_t, s_le_f, s_lt_t, s_lt_f, s_eq_t, s_eq_f, s_n1, s_n2, s_n3, s_n4, s_n5, s_n6, s_n7, s_n8, s_n9, s_n10, s_n11, s_n12, s_us, s_un, s_uLs, s_uLn, ↓reduceIte, not_false_eq_true, not_true_eq_false, true_and, and_true, and_self, or_false, false_or, or_self, true_or, or_true, false_and, and_false, Int32.neg_neg, Nat.add_zero, Nat.zero_add, Nat.reduceSub, Nat.reduceAdd, Nat.reduceMul, Nat.reduceLeDiff], by simp (disch := omega) only [s_lit, s_b0, s_b1, s_b2, s_b3, s_b4, s_b5, s_b6, s_x0, s_x0l, s_t1, s_nm, s_ckT, s_ld, s_st, s_clamp, nI_add, pk_mul, s_sub, s_nad, s_div, s_mod, s_rem2, s_le_t, s_le_f, s_lt_t, s_lt_f, s_eq_t, s_eq_f, s_n1, s_n2, s_n3, s_n4, s_n5, s_n6, s_n7, s_n8, s_n9, s_n10, s_n11, s_n12, s_us, s_un, s_uLs, s_uLn, ↓reduceIte, not_false_eq_true, not_true_eq_false, true_and, and_true, and_self, or_false, false_or, or_self, true_or, or_true, false_and, and_false, Int32.neg_neg, Nat.add_zero, Nat.zero_add, Nat.reduceSub, Nat.reduceAdd, Nat.reduceMul, Nat.reduceLeDiff, X7_readLine_J177], L⟩
    · have hx' : x < w := by omega
      have hlt : st + x < E := by omega
      have hb := t_byteAt T (p := st + x) (by omega)
      rw [chA_in hlt] at hb
      have hdd : d 2 = nI n := (L.2.2 2 (by omega)).trans d2
      have hwy := wy_lt hx' hy hw hh
      rcases lnB_t (hl x hx') with c | ⟨c1, c2⟩
      · have hcl : bytes (st + x) = nI 46 := by rw [b_eq T hlt (by omega)]; exact c
        rw [c] at hb
        by_cases back : p = n - 1
        · refine Or.inr ⟨st + x, nI (st + w), cells, nI (st + w), upd d (15 + 96 * p + w * y + x) (-nI 1), ?_, ?_, fun j hj => (pk_un (by omega)).trans (L.2.2 j hj)⟩
          · simp (disch := omega) only [s_lit, s_b0, s_b1, s_b2, s_b3, s_b4, s_b5, s_b6, s_x0, s_x0l, s_t1, s_nm, s_ckT, s_ld, s_st, s_clamp, nI_add, pk_mul, s_sub, s_nad, s_div, s_mod, s_rem2, s_le_t, s_le_f, s_lt_t, s_lt_f, s_eq_t, s_eq_f, s_n1, s_n2, s_n3, s_n4, s_n5, s_n6, s_n7, s_n8, s_n9, s_n10, s_n11, s_n12, s_us, s_un, s_uLs, s_uLn, ↓reduceIte, not_false_eq_true, not_true_eq_false, true_and, and_true, and_self, or_false, false_or, or_self, true_or, or_true, false_and, and_false, Int32.neg_neg, Nat.add_zero, Nat.zero_add, Nat.reduceSub, Nat.reduceAdd, Nat.reduceMul, Nat.reduceLeDiff, hcl, X3_readLine_J129, X0_isBack, X3_fail]
          · obtain ⟨f2, rfl⟩ : ∃ f2, fuel = f2 + 1 := ⟨fuel - 1, by omega⟩
            have hge := ne_err (k := 4) (by omega) (by omega)
            have hix : 15 + 96 * p + w * y + x < 2243 := by omega
            simp (disch := omega) only [s_lit, s_b0, s_b1, s_b2, s_b3, s_b4, s_b5, s_b6, s_x0, s_x0l, s_t1, s_nm, s_ckT, s_ld, s_st, s_clamp, nI_add, pk_mul, s_sub, s_nad, s_div, s_mod, s_rem2, s_le_t, s_le_f, s_lt_t, s_lt_f, s_eq_t, s_eq_f, s_n1, s_n2, s_n3, s_n4, s_n5, s_n6, s_n7, s_n8, s_n9, s_n10, s_n11, s_n12, s_us, s_un, s_uLs, s_uLn, ↓reduceIte, not_false_eq_true, not_true_eq_false, true_and, and_true, and_self, or_false, false_or, or_self, true_or, or_true, false_and, and_false, Int32.neg_neg, Nat.add_zero, Nat.zero_add, Nat.reduceSub, Nat.reduceAdd, Nat.reduceMul, Nat.reduceLeDiff, hg, hb, hdd, X7_report, X7_readLine_J135, X7_readLine_J170, Nat.mul_comm]
            rw [X7_readLine_L82]
            by_cases z : w ≤ x + 1
            · simp (disch := omega) only [s_lit, s_b0, s_b1, s_b2, s_b3, s_b4, s_b5, s_b6, s_x0, s_x0l, s_t1, s_nm, s_ckT, s_ld, s_st, s_clamp, nI_add, pk_mul, s_sub, s_nad, s_div, s_mod, s_rem2, s_le_t, s_le_f, s_lt_t, s_lt_f, s_eq_t, s_eq_f, s_n1, s_n2, s_n3, s_n4, s_n5, s_n6, s_n7, s_n8, s_n9, s_n10, s_n11, s_n12, s_us, s_un, s_uLs, s_uLn, ↓reduceIte, not_false_eq_true, not_true_eq_false, true_and, and_true, and_self, or_false, false_or, or_self, true_or, or_true, false_and, and_false, Int32.neg_neg, Nat.add_zero, Nat.zero_add, Nat.reduceSub, Nat.reduceAdd, Nat.reduceMul, Nat.reduceLeDiff, X7_readLine_J177]
            · simp (disch := omega) only [s_lit, s_b0, s_b1, s_b2, s_b3, s_b4, s_b5, s_b6, s_x0, s_x0l, s_t1, s_nm, s_ckT, s_ld, s_st, s_clamp, nI_add, pk_mul, s_sub, s_nad, s_div, s_mod, s_rem2, s_le_t, s_le_f, s_lt_t, s_lt_f, s_eq_t, s_eq_f, s_n1, s_n2, s_n3, s_n4, s_n5, s_n6, s_n7, s_n8, s_n9, s_n10, s_n11, s_n12, s_us, s_un, s_uLs, s_uLn, ↓reduceIte, not_false_eq_true, not_true_eq_false, true_and, and_true, and_self, or_false, false_or, or_self, true_or, or_true, false_and, and_false, Int32.neg_neg, Nat.add_zero, Nat.zero_add, Nat.reduceSub, Nat.reduceAdd, Nat.reduceMul, Nat.reduceLeDiff, hge, X7_readLine_J177]
        · have ih := t_lineX T hw hh hn hp hy hE hl d2 fuel (x + 1) _ _ (by omega) (by omega) (L.put hw hh hn hp hy hx' (v := -nI 1) (Or.inl ⟨rfl, back⟩))
          have g1 : X3_readLine_J129 (nI 0) (-nI 1) (nI E) (nI w) (nI n) bytes (nI p) (nI y) (fun z0 z1 z2 z3 => X3_readLine_L95 (nI 0) (-nI 1) (nI E) (nI w) (nI n) bytes (nI p) (nI y) fuel z0 z1 z2 z3) (nI st) (nI x) (1 : Int32) (nI (st + w)) cells = X3_readLine_L95 (nI 0) (-nI 1) (nI E) (nI w) (nI n) bytes (nI p) (nI y) fuel (nI st) (nI (x + 1)) (nI (st + w)) (upd cells (p * 96 + y * 12 + x) (-nI 1)) := by
            simp (disch := omega) only [s_lit, s_b0, s_b1, s_b2, s_b3, s_b4, s_b5, s_b6, s_x0, s_x0l, s_t1, s_nm, s_ckT, s_ld, s_st, s_clamp, nI_add, pk_mul, s_sub, s_nad, s_div, s_mod, s_rem2, s_le_t, s_le_f, s_lt_t, s_lt_f, s_eq_t, s_eq_f, s_n1, s_n2, s_n3, s_n4, s_n5, s_n6, s_n7, s_n8, s_n9, s_n10, s_n11, s_n12, s_us, s_un, s_uLs, s_uLn, ↓reduceIte, not_false_eq_true, not_true_eq_false, true_and, and_true, and_self, or_false, false_or, or_self, true_or, or_true, false_and, and_false, Int32.neg_neg, Nat.add_zero, Nat.zero_add, Nat.reduceSub, Nat.reduceAdd, Nat.reduceMul, Nat.reduceLeDiff, X3_readLine_J129, X0_isBack, X3_readLine_J161, X3_readLine_J193, q_setKind]
          have g2 : X7_readLine_J135 (nI E) buffer (nI p) (nI y) (fun z0 z1 z2 z3 z4 z5 z6 z7 => X7_readLine_L82 (nI E) buffer (nI p) (nI y) fuel z0 z1 z2 z3 z4 z5 z6 z7) (nI st) (nI w) (nI w) (nI x) (nI 46) (nI st) (nI 0) (-nI 1) d = X7_readLine_L82 (nI E) buffer (nI p) (nI y) fuel (nI st) (nI w) (nI w) (nI (x + 1)) (nI st) (nI 0) (-nI 1) (upd d (15 + 96 * p + w * y + x) (-nI 1)) := by
            simp (disch := omega) only [s_lit, s_b0, s_b1, s_b2, s_b3, s_b4, s_b5, s_b6, s_x0, s_x0l, s_t1, s_nm, s_ckT, s_ld, s_st, s_clamp, nI_add, pk_mul, s_sub, s_nad, s_div, s_mod, s_rem2, s_le_t, s_le_f, s_lt_t, s_lt_f, s_eq_t, s_eq_f, s_n1, s_n2, s_n3, s_n4, s_n5, s_n6, s_n7, s_n8, s_n9, s_n10, s_n11, s_n12, s_us, s_un, s_uLs, s_uLn, ↓reduceIte, not_false_eq_true, not_true_eq_false, true_and, and_true, and_self, or_false, false_or, or_self, true_or, or_true, false_and, and_false, Int32.neg_neg, Nat.add_zero, Nat.zero_add, Nat.reduceSub, Nat.reduceAdd, Nat.reduceMul, Nat.reduceLeDiff, X7_readLine_J135, X7_readLine_J170]
          have hpn : ¬ nI p = nI n - 1 := by
            rw [show nI n - 1 = nI (n - 1) from pk_sub (b := 1) (by omega)]
            exact fun q => back (nI_inj (by omega) (by omega) q)
          rw [if_neg (nI_ge hx' (by omega)), nI_add, q_ld bytes (st + x) _ rfl (by omega) (by omega), hcl, if_pos (show nI 46 = (46 : Int32) from rfl), g1, if_neg (nI_ge hx' (by omega)), q_b1 hg, if_neg (by decide +kernel), q_b1 hb, if_pos (show nI 46 = (46 : Int32) from rfl), q_ld (i := (2 : Int32)) d 2 _ rfl (by omega) (by omega), hdd, if_neg hpn, g2]
          exact ih
      · have hcl : bytes (st + x) = nI (tx (st + x)) := (T.2 _ hlt).2.2.2.1 (by omega)
        have ih := t_lineX T hw hh hn hp hy hE hl d2 fuel (x + 1) _ _ (by omega) (by omega) (L.put hw hh hn hp hy hx' (v := nI (tx (st + x) - 97)) (Or.inr ⟨_, by omega, rfl⟩))
        have g1 : X3_readLine_J129 (nI 0) (-nI 1) (nI E) (nI w) (nI n) bytes (nI p) (nI y) (fun z0 z1 z2 z3 => X3_readLine_L95 (nI 0) (-nI 1) (nI E) (nI w) (nI n) bytes (nI p) (nI y) fuel z0 z1 z2 z3) (nI st) (nI x) (0 : Int32) (nI (st + w)) cells = X3_readLine_L95 (nI 0) (-nI 1) (nI E) (nI w) (nI n) bytes (nI p) (nI y) fuel (nI st) (nI (x + 1)) (nI (st + w)) (upd cells (p * 96 + y * 12 + x) (nI (tx (st + x) - 97))) := by
          simp (disch := omega) only [s_lit, s_b0, s_b1, s_b2, s_b3, s_b4, s_b5, s_b6, s_x0, s_x0l, s_t1, s_nm, s_ckT, s_ld, s_st, s_clamp, nI_add, pk_mul, s_sub, s_nad, s_div, s_mod, s_rem2, s_le_t, s_le_f, s_lt_t, s_lt_f, s_eq_t, s_eq_f, s_n1, s_n2, s_n3, s_n4, s_n5, s_n6, s_n7, s_n8, s_n9, s_n10, s_n11, s_n12, s_us, s_un, s_uLs, s_uLn, ↓reduceIte, not_false_eq_true, not_true_eq_false, true_and, and_true, and_self, or_false, false_or, or_self, true_or, or_true, false_and, and_false, Int32.neg_neg, Nat.add_zero, Nat.zero_add, Nat.reduceSub, Nat.reduceAdd, Nat.reduceMul, Nat.reduceLeDiff, X3_readLine_J129, X3_readLine_J161, hcl, X3_readLine_J193, q_setKind]
        have g2 : X7_readLine_J135 (nI E) buffer (nI p) (nI y) (fun z0 z1 z2 z3 z4 z5 z6 z7 => X7_readLine_L82 (nI E) buffer (nI p) (nI y) fuel z0 z1 z2 z3 z4 z5 z6 z7) (nI st) (nI w) (nI w) (nI x) (nI (tx (st + x))) (nI st) (nI 0) (-nI 1) d = X7_readLine_L82 (nI E) buffer (nI p) (nI y) fuel (nI st) (nI w) (nI w) (nI (x + 1)) (nI st) (nI 0) (-nI 1) (upd d (15 + 96 * p + w * y + x) (nI (tx (st + x) - 97))) := by
          simp (disch := omega) only [s_lit, s_b0, s_b1, s_b2, s_b3, s_b4, s_b5, s_b6, s_x0, s_x0l, s_t1, s_nm, s_ckT, s_ld, s_st, s_clamp, nI_add, pk_mul, s_sub, s_nad, s_div, s_mod, s_rem2, s_le_t, s_le_f, s_lt_t, s_lt_f, s_eq_t, s_eq_f, s_n1, s_n2, s_n3, s_n4, s_n5, s_n6, s_n7, s_n8, s_n9, s_n10, s_n11, s_n12, s_us, s_un, s_uLs, s_uLn, ↓reduceIte, not_false_eq_true, not_true_eq_false, true_and, and_true, and_self, or_false, false_or, or_self, true_or, or_true, false_and, and_false, Int32.neg_neg, Nat.add_zero, Nat.zero_add, Nat.reduceSub, Nat.reduceAdd, Nat.reduceMul, Nat.reduceLeDiff, X7_readLine_J135, X7_readLine_J170]
        have hne : ¬ nI (tx (st + x)) = (46 : Int32) := fun q => by
          have := nI_inj (b := 46) (by omega) (by omega) q
          omega
        rw [if_neg (nI_ge hx' (by omega)), nI_add, q_ld bytes (st + x) _ rfl (by omega) (by omega), hcl, if_neg hne, g1, if_neg (nI_ge hx' (by omega)), q_b1 hg, if_neg (by decide +kernel), q_b1 hb, if_neg hne, g2]
        exact ih
/-- how long a line is: both sides count -/
theorem t_lineL (T : Txt E bytes buffer tx) {w st : Nat} (n : Int32) (cells d : Nat → Int32) (p y o : Int32) (hw : w ≤ 12) : ∀ (fuel i : Nat), E - (st + i) < fuel → st + i ≤ E →
    ∃ m, i ≤ m ∧ st + m ≤ E ∧ (∀ k, i ≤ k → k < m → lnB (tx (st + k)) = true) ∧ (chB E tx lnB (st + i) = true → i < m) ∧ (chB E tx lnB (st + i) = false → m = i) ∧
      X3_readLine_L10 (nI 0) (-nI 1) (nI E) (nI w) n cells bytes p y fuel (nI st) (nI (st + i)) = X3_readLine_J49 (nI 0) (-nI 1) (nI E) (nI w) n cells bytes p y (nI st) (nI (st + m)) ∧
      X7_readLine_L45 (nI E) (nI 0) (-nI 1) buffer d p y fuel (nI st) (nI i) (nI w) o = (if nI m = nI w then X7_readLine_J79 (nI E) buffer d p y (nI st) (nI m) (nI w) o (nI 0) (-nI 1) else bn2 (X7_report (nI 0) (-nI 1) (-nI 4) (nI st)) fun o25 o26 => X7_readLine_J79 (nI E) buffer d p y (nI st) (nI m) (nI w) o o25 o26)
  | 0, i, h, _ => absurd h (Nat.not_lt_zero _)
  | fuel + 1, i, h, hi => by
    have hE8 := T.1
    have hb := t_byteAt T (p := st + i) (by omega)
    have hc := (t_ch T (st + i)).2.2.2.2
    rw [X3_readLine_L10, X7_readLine_L45]
    cases hl : chB E tx lnB (st + i) with
    | false =>
      rw [hl] at hc
      refine ⟨i, Nat.le_refl _, hi, fun k h1 h2 => absurd h2 (by omega), (fun q => by cases q), fun _ => rfl, ?_, ?_⟩
      · by_cases c : st + i < E
        · have hbl := (t_byte T c).2.2
          rw [chB_in c] at hl
          rw [hl] at hbl
          simp (disch := omega) only [s_lit, s_b0, s_b1, s_b2, s_b3, s_b4, s_b5, s_b6, s_x0, s_x0l, s_t1, s_nm, s_ckT, s_ld, s_st, s_clamp, nI_add, pk_mul, s_sub, s_nad, s_div, s_mod, s_rem2, s_le_t, s_le_f, s_lt_t, s_lt_f, s_eq_t, s_eq_f, s_n1, s_n2, s_n3, s_n4, s_n5, s_n6, s_n7, s_n8, s_n9, s_n10, s_n11, s_n12, s_us, s_un, s_uLs, s_uLn, ↓reduceIte, not_false_eq_true, not_true_eq_false, true_and, and_true, and_self, or_false, false_or, or_self, true_or, or_true, false_and, and_false, Int32.neg_neg, Nat.add_zero, Nat.zero_add, Nat.reduceSub, Nat.reduceAdd, Nat.reduceMul, Nat.reduceLeDiff, hbl, b01, Bool.false_eq_true]
        · simp (disch := omega) only [s_lit, s_b0, s_b1, s_b2, s_b3, s_b4, s_b5, s_b6, s_x0, s_x0l, s_t1, s_nm, s_ckT, s_ld, s_st, s_clamp, nI_add, pk_mul, s_sub, s_nad, s_div, s_mod, s_rem2, s_le_t, s_le_f, s_lt_t, s_lt_f, s_eq_t, s_eq_f, s_n1, s_n2, s_n3, s_n4, s_n5, s_n6, s_n7, s_n8, s_n9, s_n10, s_n11, s_n12, s_us, s_un, s_uLs, s_uLn, ↓reduceIte, not_false_eq_true, not_true_eq_false, true_and, and_true, and_self, or_false, false_or, or_self, true_or, or_true, false_and, and_false, Int32.neg_neg, Nat.add_zero, Nat.zero_add, Nat.reduceSub, Nat.reduceAdd, Nat.reduceMul, Nat.reduceLeDiff]
      · rw [nI_add, q_b1 hb, q_b1 hc]
        exact if_pos rfl
    | true =>
      rw [hl] at hc
      obtain ⟨c, hlt⟩ := chB_lt hl
      have hbl := (t_byte T c).2.2
      rw [hlt] at hbl
      obtain ⟨m, g1, g2, g3, -, -, g4, g5⟩ := t_lineL T (st := st) n cells d p y o hw fuel (i + 1) (by omega) (by omega)
      refine ⟨m, by omega, g2, fun k h1 h2 => ?_, fun _ => by omega, (fun q => by cases q), ?_, ?_⟩
      · by_cases ek : k = i
        · rw [ek]; exact hlt
        · exact g3 k (by omega) h2
      · have g4' : X3_readLine_L10 (nI 0) (-nI 1) (nI E) (nI w) n cells bytes p y fuel (nI st) (nI (st + i + 1)) = X3_readLine_J49 (nI 0) (-nI 1) (nI E) (nI w) n cells bytes p y (nI st) (nI (st + m)) := g4
        simp (disch := omega) only [s_lit, s_b0, s_b1, s_b2, s_b3, s_b4, s_b5, s_b6, s_x0, s_x0l, s_t1, s_nm, s_ckT, s_ld, s_st, s_clamp, nI_add, pk_mul, s_sub, s_nad, s_div, s_mod, s_rem2, s_le_t, s_le_f, s_lt_t, s_lt_f, s_eq_t, s_eq_f, s_n1, s_n2, s_n3, s_n4, s_n5, s_n6, s_n7, s_n8, s_n9, s_n10, s_n11, s_n12, s_us, s_un, s_uLs, s_uLn, ↓reduceIte, not_false_eq_true, not_true_eq_false, true_and, and_true, and_self, or_false, false_or, or_self, true_or, or_true, false_and, and_false, Int32.neg_neg, Nat.add_zero, Nat.zero_add, Nat.reduceSub, Nat.reduceAdd, Nat.reduceMul, Nat.reduceLeDiff, hbl, b01]
        exact g4'
      · rw [nI_add, q_b1 hb, q_b1 hc, if_neg (show ¬ b01 true = 0 by decide +kernel), q_nm, nI_1]
        exact g5
theorem t_line (T : Txt E bytes buffer tx) {w h n p y q : Nat} (w0 : 0 < w) (hw : w ≤ 12) (hh : h ≤ 8) (hn : n ≤ 5) (hp : p < n) (hy : y < h) (hq : q ≤ E) {d0 cells d : Nat → Int32} (d2 : d0 2 = nI n) (dw : d0 0 = nI w) (L : LineR w h n d0 cells d) :
    (∃ q' c1 d1, q < q' ∧ q' ≤ E ∧ X3_readLine (nI 0) (-nI 1) (nI E) (nI q) (nI w) (nI n) cells bytes (nI p) (nI y) = some (nI 1, nI 0, -nI 1, nI q', c1) ∧ X7_readLine (nI E) (nI q) (nI 0) (-nI 1) buffer d (nI p) (nI y) = some (nI q', nI 0, -nI 1, d1) ∧ LineR w h n d0 c1 d1) ∨
    ∃ k of a c1 b d1, 2 ≤ k ∧ k ≤ 6 ∧ X3_readLine (nI 0) (-nI 1) (nI E) (nI q) (nI w) (nI n) cells bytes (nI p) (nI y) = some (nI 0, -nI k, nI of, a, c1) ∧ X7_readLine (nI E) (nI q) (nI 0) (-nI 1) buffer d (nI p) (nI y) = some (b, -nI k, nI of, d1) ∧ ∀ j, (j < 15 ∨ 495 ≤ j) → d1 j = d0 j := by
  have hE := T.1
  have ha := t_ahead T hq
  have hk := t_peek T hq
  have h1 := sk_ge E tx q
  have h2 := sk_le (tx := tx) hq
  have hc := (t_ch T (sk E tx q)).2.2.2.2
  have hg : X7_isGood (nI 0) = some (nI 1) := rfl
  have hn0 : ¬ nI 1 = 0 := by decide +kernel
  have hdw : d 0 = nI w := (L.2.2 0 (by omega)).trans dw
  obtain ⟨m, g1, g2, g3, g4, g4f, g5, g6⟩ := t_lineL T (w := w) (st := sk E tx q) (nI n) cells d (nI p) (nI y) (nI (sk E tx q)) hw FU 0 (by unfold FU; omega) (by omega)
  unfold X3_readLine X7_readLine
  rw [q_b2 hk, q_b1 hg, if_neg hn0, q_b2 ha, q_b1 hc, show X3_readLine_L10 (nI 0) (-nI 1) (nI E) (nI w) (nI n) cells bytes (nI p) (nI y) FU (nI (sk E tx q)) (nI (sk E tx q)) = _ from g5]
  cases hl : chB E tx lnB (sk E tx q) with
  | false =>
    have hm : m = 0 := g4f hl
    subst hm
    refine Or.inr ⟨2, sk E tx q, nI (sk E tx q), cells, nI (sk E tx q), d, by omega, by omega, ?_, ?_, L.2.2⟩
    · simp (disch := omega) only [s_lit, s_b0, s_b1, s_b2, s_b3, s_b4, s_b5, s_b6, s_x0, s_x0l, s_t1, s_nm, s_ckT, s_ld, s_st, s_clamp, nI_add, pk_mul, s_sub, s_nad, s_div, s_mod, s_rem2, s_le_t, s_le_f, s_lt_t, s_lt_f, s_eq_t, s_eq_f, s_n1, s_n2, s_n3, s_n4, s_n5, s_n6, s_n7, s_n8, s_n9, s_n10, s_n11, s_n12, s_us, s_un, s_uLs, s_uLn, ↓reduceIte, not_false_eq_true, not_true_eq_false, true_and, and_true, and_self, or_false, false_or, or_self, true_or, or_true, false_and, and_false, Int32.neg_neg, Nat.add_zero, Nat.zero_add, Nat.reduceSub, Nat.reduceAdd, Nat.reduceMul, Nat.reduceLeDiff, X3_readLine_J49, X3_fail]
    · simp (disch := omega) only [s_lit, s_b0, s_b1, s_b2, s_b3, s_b4, s_b5, s_b6, s_x0, s_x0l, s_t1, s_nm, s_ckT, s_ld, s_st, s_clamp, nI_add, pk_mul, s_sub, s_nad, s_div, s_mod, s_rem2, s_le_t, s_le_f, s_lt_t, s_lt_f, s_eq_t, s_eq_f, s_n1, s_n2, s_n3, s_n4, s_n5, s_n6, s_n7, s_n8, s_n9, s_n10, s_n11, s_n12, s_us, s_un, s_uLs, s_uLn, ↓reduceIte, not_false_eq_true, not_true_eq_false, true_and, and_true, and_self, or_false, false_or, or_self, true_or, or_true, false_and, and_false, Int32.neg_neg, Nat.add_zero, Nat.zero_add, Nat.reduceSub, Nat.reduceAdd, Nat.reduceMul, Nat.reduceLeDiff, b01, Bool.false_eq_true, X7_report]
  | true =>
    have hm : 0 < m := g4 hl
    rw [if_neg (show ¬ b01 true = 0 from hn0), q_ld (i := (0 : Int32)) d 0 _ rfl (by omega) (by omega), hdw, show X7_readLine_L45 (nI E) (nI 0) (-nI 1) buffer d (nI p) (nI y) FU (nI (sk E tx q)) 0 (nI w) (nI (sk E tx q)) = _ from g6]
    by_cases e : m = w
    · subst e
      have hj : X3_readLine_J49 (nI 0) (-nI 1) (nI E) (nI m) (nI n) cells bytes (nI p) (nI y) (nI (sk E tx q)) (nI (sk E tx q + m)) = X3_readLine_L95 (nI 0) (-nI 1) (nI E) (nI m) (nI n) bytes (nI p) (nI y) FU (nI (sk E tx q)) (nI 0) (nI (sk E tx q + m)) cells := by
        unfold X3_readLine_J49
        rw [if_neg (show ¬ nI (sk E tx q + m) = nI (sk E tx q) from fun z => by have := nI_inj (by omega) (by omega) z; omega), if_pos (show nI (sk E tx q + m) - nI (sk E tx q) = nI m from by rw [pk_sub (by omega), Nat.add_sub_cancel_left])]
        rfl
      rw [hj, if_pos rfl]
      rcases t_lineX T hw hh hn hp hy g2 (fun k hk => g3 k (Nat.zero_le _) hk) d2 FU 0 cells d (by unfold FU; omega) (Nat.zero_le _) L with ⟨c1, d1, k1, k2, k3⟩ | ⟨of, a, c1, b, d1, k1, k2, k3⟩
      · exact Or.inl ⟨sk E tx q + m, c1, d1, by omega, g2, k1, k2, k3⟩
      · exact Or.inr ⟨4, of, a, c1, b, d1, by omega, by omega, k1, k2, k3⟩
    · have hge := ne_err (k := 4) (by omega) (by omega)
      have hrep : X7_report (nI 0) (-nI 1) (-nI 4) (nI (sk E tx q)) = some (-nI 4, nI (sk E tx q)) := rfl
      refine Or.inr ⟨4, sk E tx q, nI (sk E tx q + m), cells, nI (sk E tx q + m), d, by omega, by omega, ?_, ?_, L.2.2⟩
      · unfold X3_readLine_J49
        rw [if_neg (show ¬ nI (sk E tx q + m) = nI (sk E tx q) from fun z => by have := nI_inj (by omega) (by omega) z; omega), pk_sub (by omega), Nat.add_sub_cancel_left, if_neg (fun z => e (nI_inj (by omega) (by omega) z))]
        simp (disch := omega) only [s_lit, s_b0, s_b1, s_b2, s_b3, s_b4, s_b5, s_b6, s_x0, s_x0l, s_t1, s_nm, s_ckT, s_ld, s_st, s_clamp, nI_add, pk_mul, s_sub, s_nad, s_div, s_mod, s_rem2, s_le_t, s_le_f, s_lt_t, s_lt_f, s_eq_t, s_eq_f, s_n1, s_n2, s_n3, s_n4, s_n5, s_n6, s_n7, s_n8, s_n9, s_n10, s_n11, s_n12, s_us, s_un, s_uLs, s_uLn, ↓reduceIte, not_false_eq_true, not_true_eq_false, true_and, and_true, and_self, or_false, false_or, or_self, true_or, or_true, false_and, and_false, Int32.neg_neg, Nat.add_zero, Nat.zero_add, Nat.reduceSub, Nat.reduceAdd, Nat.reduceMul, Nat.reduceLeDiff, X3_fail]
      · rw [if_neg (fun z => e (nI_inj (by omega) (by omega) z)), q_b2 hrep]
        unfold X7_readLine_J79
        rw [show FU = 999999 + 1 from rfl, X7_readLine_L82, if_neg (show ¬ nI w ≤ (0 : Int32) from nI_ge (a := 0) w0 (by omega)), q_b1 hge, if_pos (show nI 0 = 0 from rfl)]
        unfold X7_readLine_J177
        rw [q_nm, nI_add]
/-- the reference goes on over the lines when an error is told -/
theorem r_lineErr {k : Nat} (h2 : 2 ≤ k) (h6 : k ≤ 6) (E o ea : Int32) (d : Nat → Int32) (p y : Int32) : X7_readLine E o (-nI k) ea buffer d p y = some (o, -nI k, ea, d) := by
  unfold X7_readLine
  rw [q_b1 (ne_err h2 h6), if_pos (show nI 0 = 0 from rfl)]
theorem r_planeErr {k h : Nat} (h2 : 2 ≤ k) (h6 : k ≤ 6) (hh : h ≤ 8) (E told o ea p1 : Int32) {d : Nat → Int32} (d1 : d 1 = nI h) : ∀ fuel y : Nat, h - y < fuel → y ≤ h → X7_readPlane_L22 E told buffer p1 fuel (nI y) o (-nI k) ea d = some (o, -nI k, ea, told + 1, d)
  | 0, y, h0, _ => absurd h0 (Nat.not_lt_zero _)
  | fuel + 1, y, h0, hy => by
    rw [X7_readPlane_L22, q_ld (i := (1 : Int32)) d 1 _ rfl (by omega) (by omega), d1]
    by_cases e : y = h
    · subst e
      rw [if_pos (nI_le (Nat.le_refl _) (by omega))]
      rfl
    · rw [if_neg (nI_ge (show y < h by omega) (by omega)), q_b4 (r_lineErr h2 h6 E o ea d told (nI y)), q_nm, nI_1]
      exact r_planeErr h2 h6 hh E told o ea p1 d1 fuel (y + 1) (by omega) (by omega)
theorem t_planeL (T : Txt E bytes buffer tx) {w h n p : Nat} (w0 : 0 < w) (hw : w ≤ 12) (hh : h ≤ 8) (hn : n ≤ 5) (hp : p < n) (p1 : Int32) {d0 : Nat → Int32} (d2 : d0 2 = nI n) (dw : d0 0 = nI w) (dh : d0 1 = nI h) : ∀ (fuel y q : Nat) (cells d : Nat → Int32), h - y < fuel → y ≤ h → q ≤ E → LineR w h n d0 cells d →
    (∃ q' c1 d1, q ≤ q' ∧ q' ≤ E ∧ X3_readPlane_L27 (nI E) (nI p) (nI w) (nI h) (nI n) bytes p1 fuel (nI y) (nI 0) (-nI 1) (nI q) cells = some (nI 1, nI 0, -nI 1, nI q', nI (p + 1), c1) ∧ X7_readPlane_L22 (nI E) (nI p) buffer p1 fuel (nI y) (nI q) (nI 0) (-nI 1) d = some (nI q', nI 0, -nI 1, nI (p + 1), d1) ∧ LineR w h n d0 c1 d1) ∨
    ∃ k of a t c1 b t' d1, 2 ≤ k ∧ k ≤ 6 ∧ X3_readPlane_L27 (nI E) (nI p) (nI w) (nI h) (nI n) bytes p1 fuel (nI y) (nI 0) (-nI 1) (nI q) cells = some (nI 0, -nI k, nI of, a, t, c1) ∧ X7_readPlane_L22 (nI E) (nI p) buffer p1 fuel (nI y) (nI q) (nI 0) (-nI 1) d = some (b, -nI k, nI of, t', d1)
  | 0, y, _, _, _, h0, _, _, _ => absurd h0 (Nat.not_lt_zero _)
  | fuel + 1, y, q, cells, d, h0, hy, hq, L => by
    have hdh : d 1 = nI h := (L.2.2 1 (by omega)).trans dh
    rw [X3_readPlane_L27, X7_readPlane_L22, q_ld (i := (1 : Int32)) d 1 _ rfl (by omega) (by omega), hdh]
    by_cases e : y = h
    · subst e
      rw [if_pos (nI_le (Nat.le_refl _) (by omega)), if_pos (nI_le (Nat.le_refl _) (by omega)), q_nm, q_nm, nI_1]
      exact Or.inl ⟨q, cells, d, Nat.le_refl _, hq, rfl, rfl, L⟩
    · have hlt : y < h := by omega
      rw [if_neg (nI_ge hlt (by omega)), if_neg (nI_ge hlt (by omega))]
      rcases t_line T w0 hw hh hn hp hlt hq d2 dw L with ⟨q', c1, d1, k1, k2, k3, k4, k5⟩ | ⟨k, of, a, c1, b, d1, k1, k2, k3, k4, k5⟩
      · rw [q_b5 k3, q_b4 k4, if_neg (by decide +kernel), q_nm, q_nm, nI_1]
        rcases t_planeL T w0 hw hh hn hp p1 d2 dw dh fuel (y + 1) q' c1 d1 (by omega) (by omega) k2 k5 with ⟨q2, c2, d2', j1, j2, j3⟩ | j
        · exact Or.inl ⟨q2, c2, d2', by omega, j2, j3⟩
        · exact Or.inr j
      · rw [q_b5 k3, q_b4 k4, if_pos (show nI 0 = 0 from rfl), q_nm, nI_1]
        exact Or.inr ⟨k, of, a, nI p, c1, b, nI p + 1, d1, k1, k2, rfl, r_planeErr k1 k2 hh _ _ _ _ _ ((k5 1 (by omega)).trans dh) fuel (y + 1) (by omega) (by omega)⟩
/-- a plane -/
theorem t_plane2 (T : Txt E bytes buffer tx) {w h n p q : Nat} (w0 : 0 < w) (hw : w ≤ 12) (hh : h ≤ 8) (hn : n ≤ 5) (hp : p ≤ n) (hq : q ≤ E) {st : Nat} {d0 cells d : Nat → Int32} (d2 : d0 2 = nI n) (dw : d0 0 = nI w) (dh : d0 1 = nI h) (L : LineR w h n d0 cells d) :
    (∃ q' c1 d1, q ≤ q' ∧ q' ≤ E ∧ p + 1 ≤ n ∧ X3_readPlane (nI 0) (-nI 1) (nI E) (nI q) (nI p) (nI w) (nI h) (nI n) cells bytes (nI st) = some (nI 1, nI 0, -nI 1, nI q', nI (p + 1), c1) ∧ X7_readPlane (nI E) (nI q) (nI 0) (-nI 1) (nI p) buffer d (nI st) = some (nI q', nI 0, -nI 1, nI (p + 1), d1) ∧ LineR w h n d0 c1 d1) ∨
    ∃ k of a t c1 b t' d1, 2 ≤ k ∧ k ≤ 6 ∧ X3_readPlane (nI 0) (-nI 1) (nI E) (nI q) (nI p) (nI w) (nI h) (nI n) cells bytes (nI st) = some (nI 0, -nI k, nI of, a, t, c1) ∧ X7_readPlane (nI E) (nI q) (nI 0) (-nI 1) (nI p) buffer d (nI st) = some (b, -nI k, nI of, t', d1) := by
  have hdn : d 2 = nI n := (L.2.2 2 (by omega)).trans d2
  unfold X3_readPlane X7_readPlane
  rw [q_ld (i := (2 : Int32)) d 2 _ rfl (by omega) (by omega), hdn]
  by_cases e : p = n
  · subst e
    refine Or.inr ⟨5, st, nI q, nI p, cells, nI q, nI p + 1, d, by omega, by omega, ?_, ?_⟩
    · simp (disch := omega) only [s_lit, s_b0, s_b1, s_b2, s_b3, s_b4, s_b5, s_b6, s_x0, s_x0l, s_t1, s_nm, s_ckT, s_ld, s_st, s_clamp, nI_add, pk_mul, s_sub, s_nad, s_div, s_mod, s_rem2, s_le_t, s_le_f, s_lt_t, s_lt_f, s_eq_t, s_eq_f, s_n1, s_n2, s_n3, s_n4, s_n5, s_n6, s_n7, s_n8, s_n9, s_n10, s_n11, s_n12, s_us, s_un, s_uLs, s_uLn, ↓reduceIte, not_false_eq_true, not_true_eq_false, true_and, and_true, and_self, or_false, false_or, or_self, true_or, or_true, false_and, and_false, Int32.neg_neg, Nat.add_zero, Nat.zero_add, Nat.reduceSub, Nat.reduceAdd, Nat.reduceMul, Nat.reduceLeDiff, X3_fail]
    · rw [if_pos rfl, q_b2 (show X7_report (nI 0) (-nI 1) (-5) (nI st) = some (-nI 5, nI st) from rfl)]
      unfold X7_readPlane_J20
      exact r_planeErr (by omega) (by omega) hh _ _ _ _ _ ((L.2.2 1 (by omega)).trans dh) FU 0 (by unfold FU; omega) (Nat.zero_le _)
  · have hlt : p < n := by omega
    rw [if_pos (nI_lt hlt (by omega)), if_neg (fun z => e (nI_inj (by omega) (by omega) z))]
    unfold X7_readPlane_J20
    rcases t_planeL T w0 hw hh hn hlt (nI st) d2 dw dh FU 0 q cells d (by unfold FU; omega) (Nat.zero_le _) hq L with ⟨q2, c2, d2', j1, j2, j3⟩ | j
    · exact Or.inl ⟨q2, c2, d2', j1, j2, by omega, j3⟩
    · exact Or.inr j
end LINE
