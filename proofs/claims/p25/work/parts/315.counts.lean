/-! PHASE 2: planes, holes, reasons: what both sides count -/
theorem anyN_mono {p : Nat → Bool} {a : Nat} : ∀ b : Nat, a ≤ b → anyN p a = true → anyN p b = true
  | 0, h, ha => by rw [show a = 0 by omega] at ha; exact ha
  | b + 1, h, ha => by
    by_cases e : a = b + 1
    · rw [← e]; exact ha
    · show (anyN p b || p b) = true
      rw [anyN_mono b (by omega) ha, Bool.true_or]
theorem anyN_intro {p : Nat → Bool} {a : Nat} (n : Nat) (h : a < n) (ha : p a = true) : anyN p n = true := anyN_mono (a := a + 1) n h (by show (anyN p a || p a) = true; rw [ha, Bool.or_true])
theorem anyN_elim {p : Nat → Bool} : ∀ n : Nat, anyN p n = true → ∃ a, a < n ∧ p a = true
  | 0, h => absurd (show false = true from h) (by decide)
  | n + 1, h => by
    have h : (anyN p n || p n) = true := h
    rw [Bool.or_eq_true] at h
    rcases h with h | h
    · obtain ⟨a, h1, h2⟩ := anyN_elim n h
      exact ⟨a, by omega, h2⟩
    · exact ⟨n, by omega, h⟩
theorem anyN_succ (p : Nat → Bool) (n : Nat) : anyN p (n + 1) = (anyN p n || p n) := rfl
theorem cntN_succ (p : Nat → Bool) (n : Nat) : cntN p (n + 1) = cntN p n + (if p n = true then 1 else 0) := rfl
theorem cntN_t {p : Nat → Bool} {n : Nat} (h : p n = true) : cntN p (n + 1) = cntN p n + 1 := by rw [cntN_succ, if_pos h]
theorem cntN_f {p : Nat → Bool} {n : Nat} (h : p n = false) : cntN p (n + 1) = cntN p n := by rw [cntN_succ, h]; rfl
/-- how many cells of a plane stand in the box -/
def stB (w h : Nat) (cells : Nat → Int32) (pull : Nat → Nat) (p : Nat) (c : Nat) : Bool := !decide (Kd h cells pull p (c % w) (c / w) = -nI 1)
theorem q_standL15 {w h p y : Nat} {cells pulls : Nat → Int32} {pull : Nat → Nat} (hp : p < 5) (hw : w ≤ 12) (hh : h ≤ 8) (hpl : pulls p = nI (pull p)) (hb : pull p ≤ 8) (hy : y < h) (kont : Int32 → Int32 → Option Int32) : ∀ (fuel x c : Nat), w - x < fuel → x ≤ w → c = cntN (stB w h cells pull p) (y * w + x) → X0_standing_L15 (nI w) (nI h) cells pulls (nI p) kont fuel (nI c) (nI y) (nI x) = kont (nI (cntN (stB w h cells pull p) ((y + 1) * w))) (nI (y + 1))
  | 0, x, c, h0, _, _ => absurd h0 (Nat.not_lt_zero _)
  | fuel + 1, x, c, h0, hx, hc => by
    rw [X0_standing_L15]
    by_cases e : x = w
    · subst e
      rw [Nat.succ_mul, ← hc]
      simp (disch := omega) only [s_lit, s_b0, s_b1, s_b2, s_b3, s_b4, s_b5, s_b6, s_x0, s_x0l, s_t1, s_nm, s_ckT, s_ld, s_st, s_clamp, nI_add, pk_mul, s_sub, s_nad, s_div, s_mod, s_rem2, s_le_t, s_le_f, s_lt_t, s_lt_f, s_eq_t, s_eq_f, s_n1, s_n2, s_n3, s_n4, s_n5, s_n6, s_n7, s_n8, s_n9, s_n10, s_n11, s_n12, s_us, s_un, s_uLs, s_uLn, ↓reduceIte, not_false_eq_true, not_true_eq_false, true_and, and_true, and_self, or_false, false_or, or_self, true_or, or_true, false_and, and_false, Int32.neg_neg, Nat.add_zero, Nat.zero_add, Nat.reduceSub, Nat.reduceAdd, Nat.reduceMul, Nat.reduceLeDiff]
    · have hx' : x < w := by omega
      have hk := q_kindAt (cells := cells) (h := h) (i := nI p) (j := nI x) (k := nI y) rfl rfl rfl hp (show x < 12 by omega) hh hpl hb (show y < 8 by omega)
      by_cases q : Kd h cells pull p x y = -nI 1
      · rw [q] at hk
        simp (disch := omega) only [s_lit, s_b0, s_b1, s_b2, s_b3, s_b4, s_b5, s_b6, s_x0, s_x0l, s_t1, s_nm, s_ckT, s_ld, s_st, s_clamp, nI_add, pk_mul, s_sub, s_nad, s_div, s_mod, s_rem2, s_le_t, s_le_f, s_lt_t, s_lt_f, s_eq_t, s_eq_f, s_n1, s_n2, s_n3, s_n4, s_n5, s_n6, s_n7, s_n8, s_n9, s_n10, s_n11, s_n12, s_us, s_un, s_uLs, s_uLn, ↓reduceIte, not_false_eq_true, not_true_eq_false, true_and, and_true, and_self, or_false, false_or, or_self, true_or, or_true, false_and, and_false, Int32.neg_neg, Nat.add_zero, Nat.zero_add, Nat.reduceSub, Nat.reduceAdd, Nat.reduceMul, Nat.reduceLeDiff, hk, X0_standing_J39]
        exact q_standL15 hp hw hh hpl hb hy kont fuel (x + 1) c (by omega) (by omega) (by rw [← Nat.add_assoc, cntN_f (by unfold stB; rw [tgt_x hx', tgt_y hx', decide_eq_true q]; rfl), hc])
      · simp (disch := omega) only [s_lit, s_b0, s_b1, s_b2, s_b3, s_b4, s_b5, s_b6, s_x0, s_x0l, s_t1, s_nm, s_ckT, s_ld, s_st, s_clamp, nI_add, pk_mul, s_sub, s_nad, s_div, s_mod, s_rem2, s_le_t, s_le_f, s_lt_t, s_lt_f, s_eq_t, s_eq_f, s_n1, s_n2, s_n3, s_n4, s_n5, s_n6, s_n7, s_n8, s_n9, s_n10, s_n11, s_n12, s_us, s_un, s_uLs, s_uLn, ↓reduceIte, not_false_eq_true, not_true_eq_false, true_and, and_true, and_self, or_false, false_or, or_self, true_or, or_true, false_and, and_false, Int32.neg_neg, Nat.add_zero, Nat.zero_add, Nat.reduceSub, Nat.reduceAdd, Nat.reduceMul, Nat.reduceLeDiff, hk, q, X0_standing_J39]
        exact q_standL15 hp hw hh hpl hb hy kont fuel (x + 1) (c + 1) (by omega) (by omega) (by rw [← Nat.add_assoc, cntN_t (by unfold stB; rw [tgt_x hx', tgt_y hx', decide_eq_false q]; rfl), hc])
theorem q_standL4 {w h p : Nat} {cells pulls : Nat → Int32} {pull : Nat → Nat} (hp : p < 5) (hw : w ≤ 12) (hh : h ≤ 8) (hpl : pulls p = nI (pull p)) (hb : pull p ≤ 8) : ∀ (fuel y c : Nat), h - y < fuel → y ≤ h → c = cntN (stB w h cells pull p) (y * w) → X0_standing_L4 (nI w) (nI h) cells pulls (nI p) fuel (nI c) (nI y) = some (nI (cntN (stB w h cells pull p) (h * w)))
  | 0, y, c, h0, _, _ => absurd h0 (Nat.not_lt_zero _)
  | fuel + 1, y, c, h0, hy, hc => by
    rw [X0_standing_L4]
    by_cases e : y = h
    · subst e
      rw [← hc]
      exact if_pos (nI_le (Nat.le_refl _) (by omega))
    · have hy' : y < h := by omega
      refine (if_neg (nI_ge hy' (by omega))).trans ?_
      refine (q_standL15 hp hw hh hpl hb hy' _ FU 0 c (by unfold FU; omega) (Nat.zero_le _) hc).trans ?_
      exact q_standL4 hp hw hh hpl hb fuel (y + 1) _ (by omega) (by omega) rfl
theorem q_standing {w h p : Nat} {cells pulls : Nat → Int32} {pull : Nat → Nat} (hp : p < 5) (hw : w ≤ 12) (hh : h ≤ 8) (hpl : pulls p = nI (pull p)) (hb : pull p ≤ 8) : X0_standing (nI w) (nI h) cells pulls (nI p) = some (nI (cntN (stB w h cells pull p) (w * h))) := by
  unfold X0_standing
  rw [Nat.mul_comm w h]
  exact q_standL4 hp hw hh hpl hb FU 0 0 (by unfold FU; omega) (Nat.zero_le _) (by rw [Nat.zero_mul]; rfl)
/-- how many targets see a plane -/
def seB (sp : Nat → Nat → Nat) (p k t : Nat) : Bool := decide (sp k t = p)
theorem q_targL29 {w h k y p HN : Nat} {seen : Nat → Int32} {sp sk : Nat → Nat → Nat} (hw : w ≤ 12) (hh : h ≤ 8) (hk : k < 4) (hy : y < h) (hp : p < 5) (hs : ∀ y, y < h → ∀ x, x < w → seen (k * 96 + y * 12 + x) = nI (100 * sp k (y * w + x) + sk k (y * w + x))) (hb : ∀ t, t < w * h → sp k t < 5 ∧ sk k t < 26) (k5 : Int32 → Int32 → Option Int32) (k17 : Int32 → Int32 → Int32 → Option Int32) (c0 : Nat) : ∀ (fuel x c : Nat), w - x < fuel → x ≤ w → c = c0 + cntN (seB sp p k) (y * w + x) → X5_targetsOf_L29 seen (nI w) (nI h) (nI HN) (nI p) k5 k17 fuel (nI c) (nI k) (nI y) (nI x) = k17 (nI (c0 + cntN (seB sp p k) ((y + 1) * w))) (nI k) (nI (y + 1))
  | 0, x, c, h0, _, _ => absurd h0 (Nat.not_lt_zero _)
  | fuel + 1, x, c, h0, hx, hc => by
    rw [X5_targetsOf_L29]
    by_cases e : x = w
    · subst e
      rw [Nat.succ_mul, ← hc]
      simp (disch := omega) only [s_lit, s_b0, s_b1, s_b2, s_b3, s_b4, s_b5, s_b6, s_x0, s_x0l, s_t1, s_nm, s_ckT, s_ld, s_st, s_clamp, nI_add, pk_mul, s_sub, s_nad, s_div, s_mod, s_rem2, s_le_t, s_le_f, s_lt_t, s_lt_f, s_eq_t, s_eq_f, s_n1, s_n2, s_n3, s_n4, s_n5, s_n6, s_n7, s_n8, s_n9, s_n10, s_n11, s_n12, s_us, s_un, s_uLs, s_uLn, ↓reduceIte, not_false_eq_true, not_true_eq_false, true_and, and_true, and_self, or_false, false_or, or_self, true_or, or_true, false_and, and_false, Int32.neg_neg, Nat.add_zero, Nat.zero_add, Nat.reduceSub, Nat.reduceAdd, Nat.reduceMul, Nat.reduceLeDiff]
    · have hx' : x < w := by omega
      have hv := hs y hy x hx'
      have hbt := hb (y * w + x) (tgt_lt hx' hy)
      have hdv : (100 * sp k (y * w + x) + sk k (y * w + x)) / 100 = sp k (y * w + x) := by omega
      by_cases q : sp k (y * w + x) = p
      · simp (disch := omega) only [s_lit, s_b0, s_b1, s_b2, s_b3, s_b4, s_b5, s_b6, s_x0, s_x0l, s_t1, s_nm, s_ckT, s_ld, s_st, s_clamp, nI_add, pk_mul, s_sub, s_nad, s_div, s_mod, s_rem2, s_le_t, s_le_f, s_lt_t, s_lt_f, s_eq_t, s_eq_f, s_n1, s_n2, s_n3, s_n4, s_n5, s_n6, s_n7, s_n8, s_n9, s_n10, s_n11, s_n12, s_us, s_un, s_uLs, s_uLn, ↓reduceIte, not_false_eq_true, not_true_eq_false, true_and, and_true, and_self, or_false, false_or, or_self, true_or, or_true, false_and, and_false, Int32.neg_neg, Nat.add_zero, Nat.zero_add, Nat.reduceSub, Nat.reduceAdd, Nat.reduceMul, Nat.reduceLeDiff, X5_target, hv, hdv, q, X5_targetsOf_J62]
        exact q_targL29 hw hh hk hy hp hs hb k5 k17 c0 fuel (x + 1) (c + 1) (by omega) (by omega) (by rw [← Nat.add_assoc, cntN_t (decide_eq_true q), hc]; rfl)
      · simp (disch := omega) only [s_lit, s_b0, s_b1, s_b2, s_b3, s_b4, s_b5, s_b6, s_x0, s_x0l, s_t1, s_nm, s_ckT, s_ld, s_st, s_clamp, nI_add, pk_mul, s_sub, s_nad, s_div, s_mod, s_rem2, s_le_t, s_le_f, s_lt_t, s_lt_f, s_eq_t, s_eq_f, s_n1, s_n2, s_n3, s_n4, s_n5, s_n6, s_n7, s_n8, s_n9, s_n10, s_n11, s_n12, s_us, s_un, s_uLs, s_uLn, ↓reduceIte, not_false_eq_true, not_true_eq_false, true_and, and_true, and_self, or_false, false_or, or_self, true_or, or_true, false_and, and_false, Int32.neg_neg, Nat.add_zero, Nat.zero_add, Nat.reduceSub, Nat.reduceAdd, Nat.reduceMul, Nat.reduceLeDiff, X5_target, hv, hdv, X5_targetsOf_J62]
        exact q_targL29 hw hh hk hy hp hs hb k5 k17 c0 fuel (x + 1) c (by omega) (by omega) (by rw [← Nat.add_assoc, cntN_f (decide_eq_false q), hc])
theorem q_targL17 {w h k p HN : Nat} {seen : Nat → Int32} {sp sk : Nat → Nat → Nat} (hw : w ≤ 12) (hh : h ≤ 8) (hk : k < 4) (hp : p < 5) (hs : ∀ y, y < h → ∀ x, x < w → seen (k * 96 + y * 12 + x) = nI (100 * sp k (y * w + x) + sk k (y * w + x))) (hb : ∀ t, t < w * h → sp k t < 5 ∧ sk k t < 26) (k5 : Int32 → Int32 → Option Int32) (c0 : Nat) : ∀ (fuel y c : Nat), h - y < fuel → y ≤ h → c = c0 + cntN (seB sp p k) (y * w) → X5_targetsOf_L17 seen (nI w) (nI h) (nI HN) (nI p) k5 fuel (nI c) (nI k) (nI y) = k5 (nI (c0 + cntN (seB sp p k) (w * h))) (nI (k + 1))
  | 0, y, c, h0, _, _ => absurd h0 (Nat.not_lt_zero _)
  | fuel + 1, y, c, h0, hy, hc => by
    rw [X5_targetsOf_L17]
    by_cases e : y = h
    · subst e
      rw [Nat.mul_comm w y, ← hc]
      simp (disch := omega) only [s_lit, s_b0, s_b1, s_b2, s_b3, s_b4, s_b5, s_b6, s_x0, s_x0l, s_t1, s_nm, s_ckT, s_ld, s_st, s_clamp, nI_add, pk_mul, s_sub, s_nad, s_div, s_mod, s_rem2, s_le_t, s_le_f, s_lt_t, s_lt_f, s_eq_t, s_eq_f, s_n1, s_n2, s_n3, s_n4, s_n5, s_n6, s_n7, s_n8, s_n9, s_n10, s_n11, s_n12, s_us, s_un, s_uLs, s_uLn, ↓reduceIte, not_false_eq_true, not_true_eq_false, true_and, and_true, and_self, or_false, false_or, or_self, true_or, or_true, false_and, and_false, Int32.neg_neg, Nat.add_zero, Nat.zero_add, Nat.reduceSub, Nat.reduceAdd, Nat.reduceMul, Nat.reduceLeDiff]
    · have hy' : y < h := by omega
      refine (if_neg (nI_ge hy' (by omega))).trans ?_
      refine (q_targL29 hw hh hk hy' hp hs hb k5 _ c0 FU 0 c (by unfold FU; omega) (Nat.zero_le _) hc).trans ?_
      exact q_targL17 hw hh hk hp hs hb k5 c0 fuel (y + 1) _ (by omega) (by omega) rfl
theorem q_targL5 {w h p HN : Nat} {seen : Nat → Int32} {sp sk : Nat → Nat → Nat} (hw : w ≤ 12) (hh : h ≤ 8) (hH : HN ≤ 4) (hp : p < 5) (hs : ∀ k, k < HN → ∀ y, y < h → ∀ x, x < w → seen (k * 96 + y * 12 + x) = nI (100 * sp k (y * w + x) + sk k (y * w + x))) (hb : ∀ k, k < HN → ∀ t, t < w * h → sp k t < 5 ∧ sk k t < 26) : ∀ (fuel k c : Nat), HN - k < fuel → k ≤ HN → c = sumN (fun k => cntN (seB sp p k) (w * h)) k → X5_targetsOf_L5 seen (nI w) (nI h) (nI HN) (nI p) fuel (nI c) (nI k) = some (nI (sumN (fun k => cntN (seB sp p k) (w * h)) HN))
  | 0, k, c, h0, _, _ => absurd h0 (Nat.not_lt_zero _)
  | fuel + 1, k, c, h0, hk, hc => by
    rw [X5_targetsOf_L5]
    by_cases e : k = HN
    · subst e
      rw [← hc]
      exact if_pos (nI_le (Nat.le_refl _) (by omega))
    · have hk' : k < HN := by omega
      refine (if_neg (nI_ge hk' (by omega))).trans ?_
      refine (q_targL17 hw hh (by omega) hp (hs k hk') (hb k hk') _ c FU 0 c (by unfold FU; omega) (Nat.zero_le _) (by rw [Nat.zero_mul]; rfl)).trans ?_
      exact q_targL5 hw hh hH hp hs hb fuel (k + 1) _ (by omega) (by omega) (by rw [hc]; rfl)
/-- the same, by the reference -/
theorem r_planeL96 {d : Nat → Int32} {k p N : Nat} {sp sk : Nat → Nat} (R : RSee d (nI k) N sp sk) (hp : p < 5) (p2 : Int32) (k77 : Int32 → Int32 → Option Int32) (c0 : Nat) : ∀ (fuel t c : Nat), N - t < fuel → t ≤ N → c = c0 + cntN (fun t => decide (sp t = p)) t → X7_toldPlane_L96 d (nI p) p2 k77 fuel (nI c) (nI k) (nI t) = k77 (nI (c0 + cntN (fun t => decide (sp t = p)) N)) (nI (k + 1))
  | 0, t, c, h0, _, _ => absurd h0 (Nat.not_lt_zero _)
  | fuel + 1, t, c, h0, ht, hc => by
    obtain ⟨r1, r2, r3⟩ := id R
    rw [X7_toldPlane_L96]
    by_cases e : t = N
    · subst e
      rw [← hc]
      simp (disch := omega) only [s_lit, s_b0, s_b1, s_b2, s_b3, s_b4, s_b5, s_b6, s_x0, s_x0l, s_t1, s_nm, s_ckT, s_ld, s_st, s_clamp, nI_add, pk_mul, s_sub, s_nad, s_div, s_mod, s_rem2, s_le_t, s_le_f, s_lt_t, s_lt_f, s_eq_t, s_eq_f, s_n1, s_n2, s_n3, s_n4, s_n5, s_n6, s_n7, s_n8, s_n9, s_n10, s_n11, s_n12, s_us, s_un, s_uLs, s_uLn, ↓reduceIte, not_false_eq_true, not_true_eq_false, true_and, and_true, and_self, or_false, false_or, or_self, true_or, or_true, false_and, and_false, Int32.neg_neg, Nat.add_zero, Nat.zero_add, Nat.reduceSub, Nat.reduceAdd, Nat.reduceMul, Nat.reduceLeDiff, r1]
    · have ht' : t < N := by omega
      have hs := (r3 t ht').1
      have hb := (r3 t ht').2.2.1
      by_cases q : sp t = p
      · rw [q] at hs
        simp (disch := omega) only [s_lit, s_b0, s_b1, s_b2, s_b3, s_b4, s_b5, s_b6, s_x0, s_x0l, s_t1, s_nm, s_ckT, s_ld, s_st, s_clamp, nI_add, pk_mul, s_sub, s_nad, s_div, s_mod, s_rem2, s_le_t, s_le_f, s_lt_t, s_lt_f, s_eq_t, s_eq_f, s_n1, s_n2, s_n3, s_n4, s_n5, s_n6, s_n7, s_n8, s_n9, s_n10, s_n11, s_n12, s_us, s_un, s_uLs, s_uLn, ↓reduceIte, not_false_eq_true, not_true_eq_false, true_and, and_true, and_self, or_false, false_or, or_self, true_or, or_true, false_and, and_false, Int32.neg_neg, Nat.add_zero, Nat.zero_add, Nat.reduceSub, Nat.reduceAdd, Nat.reduceMul, Nat.reduceLeDiff, r1, hs, X7_toldPlane_J123]
        exact r_planeL96 R hp p2 k77 c0 fuel (t + 1) (c + 1) (by omega) (by omega) (by rw [cntN_t (decide_eq_true q), hc]; rfl)
      · simp (disch := omega) only [s_lit, s_b0, s_b1, s_b2, s_b3, s_b4, s_b5, s_b6, s_x0, s_x0l, s_t1, s_nm, s_ckT, s_ld, s_st, s_clamp, nI_add, pk_mul, s_sub, s_nad, s_div, s_mod, s_rem2, s_le_t, s_le_f, s_lt_t, s_lt_f, s_eq_t, s_eq_f, s_n1, s_n2, s_n3, s_n4, s_n5, s_n6, s_n7, s_n8, s_n9, s_n10, s_n11, s_n12, s_us, s_un, s_uLs, s_uLn, ↓reduceIte, not_false_eq_true, not_true_eq_false, true_and, and_true, and_self, or_false, false_or, or_self, true_or, or_true, false_and, and_false, Int32.neg_neg, Nat.add_zero, Nat.zero_add, Nat.reduceSub, Nat.reduceAdd, Nat.reduceMul, Nat.reduceLeDiff, r1, hs, X7_toldPlane_J123]
        exact r_planeL96 R hp p2 k77 c0 fuel (t + 1) c (by omega) (by omega) (by rw [cntN_f (decide_eq_false q), hc])
theorem r_planeL77 {d : Nat → Int32} {p N HN : Nat} {sp sk : Nat → Nat → Nat} (R : ∀ k, k < HN → RSee d (nI k) N (sp k) (sk k)) (h3 : d 3 = nI HN) (hH : HN ≤ 4) (hp : p < 5) : ∀ (fuel k c : Nat), HN - k < fuel → k ≤ HN → c = sumN (fun k => cntN (seB sp p k) N) k → X7_toldPlane_L77 d (nI p) (nI 2) fuel (nI c) (nI k) = some (nI (sumN (fun k => cntN (seB sp p k) N) HN))
  | 0, k, c, h0, _, _ => absurd h0 (Nat.not_lt_zero _)
  | fuel + 1, k, c, h0, hk, hc => by
    rw [X7_toldPlane_L77]
    by_cases e : k = HN
    · subst e
      rw [← hc]
      simp (disch := omega) only [s_lit, s_b0, s_b1, s_b2, s_b3, s_b4, s_b5, s_b6, s_x0, s_x0l, s_t1, s_nm, s_ckT, s_ld, s_st, s_clamp, nI_add, pk_mul, s_sub, s_nad, s_div, s_mod, s_rem2, s_le_t, s_le_f, s_lt_t, s_lt_f, s_eq_t, s_eq_f, s_n1, s_n2, s_n3, s_n4, s_n5, s_n6, s_n7, s_n8, s_n9, s_n10, s_n11, s_n12, s_us, s_un, s_uLs, s_uLn, ↓reduceIte, not_false_eq_true, not_true_eq_false, true_and, and_true, and_self, or_false, false_or, or_self, true_or, or_true, false_and, and_false, Int32.neg_neg, Nat.add_zero, Nat.zero_add, Nat.reduceSub, Nat.reduceAdd, Nat.reduceMul, Nat.reduceLeDiff, h3]
    · have hk' : k < HN := by omega
      have hN := (R k hk').2.1.2
      simp (disch := omega) only [s_lit, s_b0, s_b1, s_b2, s_b3, s_b4, s_b5, s_b6, s_x0, s_x0l, s_t1, s_nm, s_ckT, s_ld, s_st, s_clamp, nI_add, pk_mul, s_sub, s_nad, s_div, s_mod, s_rem2, s_le_t, s_le_f, s_lt_t, s_lt_f, s_eq_t, s_eq_f, s_n1, s_n2, s_n3, s_n4, s_n5, s_n6, s_n7, s_n8, s_n9, s_n10, s_n11, s_n12, s_us, s_un, s_uLs, s_uLn, ↓reduceIte, not_false_eq_true, not_true_eq_false, true_and, and_true, and_self, or_false, false_or, or_self, true_or, or_true, false_and, and_false, Int32.neg_neg, Nat.add_zero, Nat.zero_add, Nat.reduceSub, Nat.reduceAdd, Nat.reduceMul, Nat.reduceLeDiff, h3]
      refine (r_planeL96 (R k hk') hp (nI 2) _ c FU 0 c (by unfold FU; omega) (Nat.zero_le _) rfl).trans ?_
      exact r_planeL77 R h3 hH hp fuel (k + 1) _ (by omega) (by omega) (by rw [hc]; rfl)
theorem r_standL19 {w h n HN p : Nat} {cells : Nat → Int32} {pull hx hy : Nat → Nat} {d : Nat → Int32} (R : RBox w h n cells pull HN hx hy d) (S : SBox w h n pull HN hx hy) (hp : p < n) : ∀ (fuel t c : Nat), w * h - t < fuel → t ≤ w * h → c = cntN (stB w h cells pull p) t → X7_toldPlane_L19 d (nI p) (nI 1) fuel (nI c) (nI t) = some (nI (cntN (stB w h cells pull p) (w * h)))
  | 0, t, c, h0, _, _ => absurd h0 (Nat.not_lt_zero _)
  | fuel + 1, t, c, h0, ht, hc => by
    have hm : w * h ≤ 12 * 8 := Nat.mul_le_mul S.1.2 S.2.1.2
    have hcell : X7_cells d = some (nI (w * h)) := by
      unfold X7_cells
      simp (disch := omega) only [s_lit, s_b0, s_b1, s_b2, s_b3, s_b4, s_b5, s_b6, s_x0, s_x0l, s_t1, s_nm, s_ckT, s_ld, s_st, s_clamp, nI_add, pk_mul, s_sub, s_nad, s_div, s_mod, s_rem2, s_le_t, s_le_f, s_lt_t, s_lt_f, s_eq_t, s_eq_f, s_n1, s_n2, s_n3, s_n4, s_n5, s_n6, s_n7, s_n8, s_n9, s_n10, s_n11, s_n12, s_us, s_un, s_uLs, s_uLn, ↓reduceIte, not_false_eq_true, not_true_eq_false, true_and, and_true, and_self, or_false, false_or, or_self, true_or, or_true, false_and, and_false, Int32.neg_neg, Nat.add_zero, Nat.zero_add, Nat.reduceSub, Nat.reduceAdd, Nat.reduceMul, Nat.reduceLeDiff, R.1, R.2.1]
    have hH := S.2.2.2.1
    have hw := S.1
    rw [X7_toldPlane_L19]
    by_cases e : t = w * h
    · rw [e] at hc
      rw [← hc, e]
      simp (disch := omega) only [s_lit, s_b0, s_b1, s_b2, s_b3, s_b4, s_b5, s_b6, s_x0, s_x0l, s_t1, s_nm, s_ckT, s_ld, s_st, s_clamp, nI_add, pk_mul, s_sub, s_nad, s_div, s_mod, s_rem2, s_le_t, s_le_f, s_lt_t, s_lt_f, s_eq_t, s_eq_f, s_n1, s_n2, s_n3, s_n4, s_n5, s_n6, s_n7, s_n8, s_n9, s_n10, s_n11, s_n12, s_us, s_un, s_uLs, s_uLn, ↓reduceIte, not_false_eq_true, not_true_eq_false, true_and, and_true, and_self, or_false, false_or, or_self, true_or, or_true, false_and, and_false, Int32.neg_neg, Nat.add_zero, Nat.zero_add, Nat.reduceSub, Nat.reduceAdd, Nat.reduceMul, Nat.reduceLeDiff, hcell, X7_toldPlane_J74]
      rw [show FU = 999999 + 1 from rfl, X7_toldPlane_L77]
      by_cases z : HN = 0
      · subst z
        simp (disch := omega) only [s_lit, s_b0, s_b1, s_b2, s_b3, s_b4, s_b5, s_b6, s_x0, s_x0l, s_t1, s_nm, s_ckT, s_ld, s_st, s_clamp, nI_add, pk_mul, s_sub, s_nad, s_div, s_mod, s_rem2, s_le_t, s_le_f, s_lt_t, s_lt_f, s_eq_t, s_eq_f, s_n1, s_n2, s_n3, s_n4, s_n5, s_n6, s_n7, s_n8, s_n9, s_n10, s_n11, s_n12, s_us, s_un, s_uLs, s_uLn, ↓reduceIte, not_false_eq_true, not_true_eq_false, true_and, and_true, and_self, or_false, false_or, or_self, true_or, or_true, false_and, and_false, Int32.neg_neg, Nat.add_zero, Nat.zero_add, Nat.reduceSub, Nat.reduceAdd, Nat.reduceMul, Nat.reduceLeDiff, R.2.2.2.1]
      · simp (disch := omega) only [s_lit, s_b0, s_b1, s_b2, s_b3, s_b4, s_b5, s_b6, s_x0, s_x0l, s_t1, s_nm, s_ckT, s_ld, s_st, s_clamp, nI_add, pk_mul, s_sub, s_nad, s_div, s_mod, s_rem2, s_le_t, s_le_f, s_lt_t, s_lt_f, s_eq_t, s_eq_f, s_n1, s_n2, s_n3, s_n4, s_n5, s_n6, s_n7, s_n8, s_n9, s_n10, s_n11, s_n12, s_us, s_un, s_uLs, s_uLn, ↓reduceIte, not_false_eq_true, not_true_eq_false, true_and, and_true, and_self, or_false, false_or, or_self, true_or, or_true, false_and, and_false, Int32.neg_neg, Nat.add_zero, Nat.zero_add, Nat.reduceSub, Nat.reduceAdd, Nat.reduceMul, Nat.reduceLeDiff, R.2.2.2.1]
    · have ht' : t < w * h := by omega
      have hk := r_kindAt R S (i := nI p) (j := nI (t % w)) (k := nI (t / w)) rfl rfl rfl hp (Nat.mod_lt _ S.1.1) (Nat.div_lt_of_lt_mul ht')
      by_cases q : Kd h cells pull p (t % w) (t / w) = -nI 1
      · rw [q] at hk
        simp (disch := omega) only [s_lit, s_b0, s_b1, s_b2, s_b3, s_b4, s_b5, s_b6, s_x0, s_x0l, s_t1, s_nm, s_ckT, s_ld, s_st, s_clamp, nI_add, pk_mul, s_sub, s_nad, s_div, s_mod, s_rem2, s_le_t, s_le_f, s_lt_t, s_lt_f, s_eq_t, s_eq_f, s_n1, s_n2, s_n3, s_n4, s_n5, s_n6, s_n7, s_n8, s_n9, s_n10, s_n11, s_n12, s_us, s_un, s_uLs, s_uLn, ↓reduceIte, not_false_eq_true, not_true_eq_false, true_and, and_true, and_self, or_false, false_or, or_self, true_or, or_true, false_and, and_false, Int32.neg_neg, Nat.add_zero, Nat.zero_add, Nat.reduceSub, Nat.reduceAdd, Nat.reduceMul, Nat.reduceLeDiff, hcell, R.1, hk, X7_toldPlane_J66]
        exact r_standL19 R S hp fuel (t + 1) c (by omega) (by omega) (by rw [cntN_f (by unfold stB; rw [decide_eq_true q]; rfl), hc])
      · simp (disch := omega) only [s_lit, s_b0, s_b1, s_b2, s_b3, s_b4, s_b5, s_b6, s_x0, s_x0l, s_t1, s_nm, s_ckT, s_ld, s_st, s_clamp, nI_add, pk_mul, s_sub, s_nad, s_div, s_mod, s_rem2, s_le_t, s_le_f, s_lt_t, s_lt_f, s_eq_t, s_eq_f, s_n1, s_n2, s_n3, s_n4, s_n5, s_n6, s_n7, s_n8, s_n9, s_n10, s_n11, s_n12, s_us, s_un, s_uLs, s_uLn, ↓reduceIte, not_false_eq_true, not_true_eq_false, true_and, and_true, and_self, or_false, false_or, or_self, true_or, or_true, false_and, and_false, Int32.neg_neg, Nat.add_zero, Nat.zero_add, Nat.reduceSub, Nat.reduceAdd, Nat.reduceMul, Nat.reduceLeDiff, hcell, R.1, hk, q, X7_toldPlane_J66]
        exact r_standL19 R S hp fuel (t + 1) (c + 1) (by omega) (by omega) (by rw [cntN_t (by unfold stB; rw [decide_eq_false q]; rfl), hc])
