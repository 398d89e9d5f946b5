/-! PHASE 2: the beginning of a setup text -/
section BOX
variable {E : Nat} {bytes buffer : Nat → Int32} {tx : Nat → Nat}
/-- a number; 0 where an error is told -/
theorem t_number0 (T : Txt E bytes buffer tx) {p lo hi : Nat} (hp : p ≤ E) (hl : lo ≤ 9999) (hh : hi ≤ 9999) (num ns : Int32) :
    (∃ v p', lo ≤ v ∧ v ≤ hi ∧ p < p' ∧ p' ≤ E ∧ X3_readNumber (nI 0) (-nI 1) (nI E) (nI p) num bytes (nI lo) (nI hi) = some (nI 1, nI 0, -nI 1, nI p', nI v) ∧ X7_number (nI E) (nI p) (nI 0) (-nI 1) ns buffer (nI lo) (nI hi) = some (nI v, nI p', nI 0, -nI 1, nI (sk E tx p))) ∨
    ∃ k of a m b s, 2 ≤ k ∧ k ≤ 6 ∧ X3_readNumber (nI 0) (-nI 1) (nI E) (nI p) num bytes (nI lo) (nI hi) = some (nI 0, -nI k, nI of, a, m) ∧ X7_number (nI E) (nI p) (nI 0) (-nI 1) ns buffer (nI lo) (nI hi) = some (nI 0, b, -nI k, nI of, s) := by
  have hE := T.1
  have ha := t_ahead T hp
  have hk := t_peek T hp
  have h1 := sk_ge E tx p
  have h2 := sk_le (tx := tx) hp
  obtain ⟨c1, c2, -⟩ := t_ch T (sk E tx p)
  have hg : X7_isGood (nI 0) = some (nI 1) := rfl
  have hn0 : ¬ nI 1 = 0 := by decide +kernel
  unfold X3_readNumber X7_number
  rw [q_b2 hk, q_b1 c1, q_b1 hg, if_neg hn0, q_b2 ha, q_b1 c2]
  cases hd : chB E tx dgB (sk E tx p) with
  | false =>
    refine Or.inr ⟨2, sk E tx p, nI (sk E tx p), num, nI (sk E tx p), ns, by omega, by omega, ?_, ?_⟩
    · simp (disch := omega) only [s_lit, s_b0, s_b1, s_b2, s_b3, s_b4, s_b5, s_b6, s_x0, s_x0l, s_t1, s_nm, s_ckT, s_ld, s_st, s_clamp, nI_add, pk_mul, s_sub, s_nad, s_div, s_mod, s_rem2, s_le_t, s_le_f, s_lt_t, s_lt_f, s_eq_t, s_eq_f, s_n1, s_n2, s_n3, s_n4, s_n5, s_n6, s_n7, s_n8, s_n9, s_n10, s_n11, s_n12, s_us, s_un, s_uLs, s_uLn, ↓reduceIte, not_false_eq_true, not_true_eq_false, true_and, and_true, and_self, or_false, false_or, or_self, true_or, or_true, false_and, and_false, Int32.neg_neg, Nat.add_zero, Nat.zero_add, Nat.reduceSub, Nat.reduceAdd, Nat.reduceMul, Nat.reduceLeDiff, b01, Bool.false_eq_true, X3_fail]
    · simp (disch := omega) only [s_lit, s_b0, s_b1, s_b2, s_b3, s_b4, s_b5, s_b6, s_x0, s_x0l, s_t1, s_nm, s_ckT, s_ld, s_st, s_clamp, nI_add, pk_mul, s_sub, s_nad, s_div, s_mod, s_rem2, s_le_t, s_le_f, s_lt_t, s_lt_f, s_eq_t, s_eq_f, s_n1, s_n2, s_n3, s_n4, s_n5, s_n6, s_n7, s_n8, s_n9, s_n10, s_n11, s_n12, s_us, s_un, s_uLs, s_uLn, ↓reduceIte, not_false_eq_true, not_true_eq_false, true_and, and_true, and_self, or_false, false_or, or_self, true_or, or_true, false_and, and_false, Int32.neg_neg, Nat.add_zero, Nat.zero_add, Nat.reduceSub, Nat.reduceAdd, Nat.reduceMul, Nat.reduceLeDiff, b01, Bool.false_eq_true, X7_report]
  | true =>
    obtain ⟨p', k1, k2, k3, k4⟩ := t_numL T (lo := lo) (hi := hi) (st := sk E tx p) hl hh FU (sk E tx p) 0 0 (by unfold FU; omega) h2 rfl (by omega)
    have k3 := k3 hd
    have e1 : ¬ b01 true = 0 := hn0
    rw [if_neg e1, if_neg e1]
    rcases k4 with ⟨v', q1, q2, q3, q4⟩ | ⟨m, q3, q4⟩
    · exact Or.inl ⟨v', p', q1, q2, by omega, k2, q3, q4⟩
    · exact Or.inr ⟨3, sk E tx p, _, _, _, _, by omega, by omega, q3, q4⟩
theorem r_wordAt (T : Txt E bytes buffer tx) (ws : List Int32) {p : Nat} (hp : p ≤ E) : X7_takeWord ws (nI E) (nI p) (nI 0) buffer = X7_takeWord ws (nI E) (nI (sk E tx p)) (nI 0) buffer := by
  have ha := t_ahead T hp
  have hb := t_ahead T (sk_le (tx := tx) hp)
  rw [sk_sk] at hb
  have hg : X7_isGood (nI 0) = some (nI 1) := rfl
  unfold X7_takeWord
  rw [q_b1 hg, q_b1 hg, if_neg (by decide +kernel), if_neg (by decide +kernel), q_b2 ha, q_b2 hb]
end BOX
/-- the class's cells when a box begins: open, the back's kind is a -/
def BegC (n w h T : Nat) (c : Nat → Int32) : Prop := (∀ m, m < (n - 1) * 96 → c m = -nI 1) ∧ ∀ y, y < h → ∀ x, x < w → y * w + x < T → c ((n - 1) * 96 + y * 12 + x) = nI 0
theorem BegC.put {n w h y x : Nat} {c : Nat → Int32} (hw : w ≤ 12) (hx : x < w) (B : BegC n w h (y * w + x) c) : BegC n w h (y * w + x + 1) (upd c ((n - 1) * 96 + y * 12 + x) (nI 0)) := by
  refine ⟨fun m hm => (pk_un (by omega)).trans (B.1 m hm), fun y' hy' x' hx' ht => ?_⟩
  by_cases e : (n - 1) * 96 + y' * 12 + x' = (n - 1) * 96 + y * 12 + x
  · rw [e, pk_us]
  · rw [pk_un e]
    refine B.2 y' hy' x' hx' ?_
    have hne : y' * w + x' ≠ y * w + x := fun z => by
      have := wy_inj (w := w) hx' hx (show w * y' + x' = w * y + x by rw [Nat.mul_comm w y', Nat.mul_comm w y]; exact z)
      omega
    omega
theorem q_begL57 {w h n y : Nat} (hw : w ≤ 12) (hn0 : 0 < n) (hn : n ≤ 5) (hy : y < 8) (ps : Int32) (pc : Nat → Int32) (a1 a2 a3 zo zr : Int32) (zp : Nat → Int32) (kont : Int32 → Int32 → Int32 → Int32 → Int32 → Int32 → (Nat → Int32) → (Nat → Int32) → Option (Int32 × Int32 × Int32 × Int32 × Int32 × (Nat → Int32) × (Nat → Int32) × Int32 × (Nat → Int32))) : ∀ (fuel x : Nat) (c : Nat → Int32), w - x < fuel → x ≤ w → BegC n w h (y * w + x) c → ∃ c', X0_begin_L57 ps pc a1 a2 a3 kont fuel (nI y) (nI x) (nI w) (nI h) (nI n) zo zr c zp = kont (nI (y + 1)) (nI w) (nI h) (nI n) zo zr c' zp ∧ BegC n w h ((y + 1) * w) c'
  | 0, x, _, h0, _, _ => absurd h0 (Nat.not_lt_zero _)
  | fuel + 1, x, c, h0, hx, B => by
    rw [X0_begin_L57]
    by_cases e : x = w
    · subst e
      refine ⟨c, ?_, by rw [Nat.succ_mul]; exact B⟩
      rw [if_pos (nI_le (Nat.le_refl _) (by omega)), q_nm, nI_1]
    · have hx' : x < w := by omega
      obtain ⟨c', g1, g2⟩ := q_begL57 hw hn0 hn hy ps pc a1 a2 a3 zo zr zp kont fuel (x + 1) _ (by omega) (by omega) (B.put hw hx')
      refine ⟨c', ?_, g2⟩
      rw [if_neg (nI_ge hx' (by omega)), show nI n - (1 : Int32) = nI (n - 1) from pk_sub (b := 1) (by omega), q_b1 (q_setKind c (v := 0) (show n - 1 < 5 by omega) (show x < 12 by omega) hy), q_nm, nI_1]
      exact g1
theorem q_begPrice (ps : Int32) (pc : Nat → Int32) : X2_begin ps pc = some (nI 3, upd (upd (upd pc 0 (nI 1)) 1 (-nI 1)) 2 (-nI 43)) := by
  unfold X2_begin X2_clear X2_add X2_addOperation X2_add
  simp (disch := omega) only [s_lit, s_b0, s_b1, s_b2, s_b3, s_b4, s_b5, s_b6, s_x0, s_x0l, s_t1, s_nm, s_ckT, s_ld, s_st, s_clamp, nI_add, pk_mul, s_sub, s_nad, s_div, s_mod, s_rem2, s_le_t, s_le_f, s_lt_t, s_lt_f, s_eq_t, s_eq_f, s_n1, s_n2, s_n3, s_n4, s_n5, s_n6, s_n7, s_n8, s_n9, s_n10, s_n11, s_n12, s_us, s_un, s_uLs, s_uLn, ↓reduceIte, not_false_eq_true, not_true_eq_false, true_and, and_true, and_self, or_false, false_or, or_self, true_or, or_true, false_and, and_false, Int32.neg_neg, Nat.add_zero, Nat.zero_add, Nat.reduceSub, Nat.reduceAdd, Nat.reduceMul, Nat.reduceLeDiff]
theorem q_begL45 {w h n : Nat} (hw : w ≤ 12) (hh : h ≤ 8) (hn0 : 0 < n) (hn : n ≤ 5) (ps : Int32) (pc : Nat → Int32) (a1 a2 a3 zo zr : Int32) (zp : Nat → Int32) : ∀ (fuel y : Nat) (c : Nat → Int32), h - y < fuel → y ≤ h → BegC n w h (y * w) c → ∃ c', X0_begin_L45 ps pc a1 a2 a3 fuel (nI y) (nI w) (nI h) (nI n) zo zr c zp = some (nI w, nI h, nI n, zo, zr, c', zp, nI 3, upd (upd (upd pc 0 (nI 1)) 1 (-nI 1)) 2 (-nI 43)) ∧ BegC n w h (h * w) c'
  | 0, y, _, h0, _, _ => absurd h0 (Nat.not_lt_zero _)
  | fuel + 1, y, c, h0, hy, B => by
    rw [X0_begin_L45]
    by_cases e : y = h
    · subst e
      refine ⟨c, ?_, B⟩
      rw [if_pos (nI_le (Nat.le_refl _) (by omega)), q_b2 (q_begPrice ps pc)]
    · have hy' : y < h := by omega
      obtain ⟨c1, g1, g2⟩ := q_begL57 (h := h) (x := 0) hw hn0 hn (show y < 8 by omega) ps pc a1 a2 a3 zo zr zp (fun z0 z1 z2 z3 z4 z5 z6 z7 => X0_begin_L45 ps pc a1 a2 a3 fuel z0 z1 z2 z3 z4 z5 z6 z7) FU c (by unfold FU; omega) (Nat.zero_le _) B
      obtain ⟨c2, g3, g4⟩ := q_begL45 hw hh hn0 hn ps pc a1 a2 a3 zo zr zp fuel (y + 1) c1 (by omega) (by omega) g2
      refine ⟨c2, ?_, g4⟩
      rw [if_neg (nI_ge hy' (by omega))]
      exact g1.trans g3
/-- the reference's row when a box begins -/
def BegD (w h n P C : Nat) (d : Nat → Int32) : Prop := d 0 = nI w ∧ d 1 = nI h ∧ d 2 = nI n ∧ d 3 = nI 0 ∧ d 4 = nI 9 ∧ d 5 = nI 3 ∧ (∀ j, 6 ≤ j → j < 15 → d j = nI 0) ∧ (∀ j, 495 ≤ j → j < 2243 → d j = nI 0) ∧ ∀ p, p < n → ∀ c, c < w * h → (p < P ∨ p = P ∧ c < C) → d (15 + 96 * p + c) = if p = n - 1 then nI 0 else -nI 1
theorem BegD.put {w h n P C : Nat} {d : Nat → Int32} (hm : w * h ≤ 96) (hP : P < n) (hn : n ≤ 5) (hC : C < w * h) (B : BegD w h n P C d) : BegD w h n P (C + 1) (upd d (15 + 96 * P + C) (if P = n - 1 then nI 0 else -nI 1)) := by
  obtain ⟨b0, b1, b2, b3, b4, b5, b6, b7, b8⟩ := B
  refine ⟨(pk_un (by omega)).trans b0, (pk_un (by omega)).trans b1, (pk_un (by omega)).trans b2, (pk_un (by omega)).trans b3, (pk_un (by omega)).trans b4, (pk_un (by omega)).trans b5, fun j h1 h2 => (pk_un (by omega)).trans (b6 j h1 h2), fun j h1 h2 => (pk_un (by omega)).trans (b7 j h1 h2), fun p hp c hc ho => ?_⟩
  by_cases e : p = P ∧ c = C
  · rw [e.1, e.2, pk_us]
  · rw [pk_un (by omega)]
    exact b8 p hp c hc (by omega)
theorem r_layL55 {w h n P : Nat} (hm : w * h ≤ 96) (hP : P < n) (hn : n ≤ 5) (k46 : Int32 → (Nat → Int32) → Option (Nat → Int32)) : ∀ (fuel C : Nat) (d : Nat → Int32), w * h - C < fuel → C ≤ w * h → BegD w h n P C d → ∃ d', X7_layBox_L55 2243 (nI w) (nI h) (nI n) k46 fuel (nI P) (nI C) d = k46 (nI (P + 1)) d' ∧ BegD w h n (P + 1) 0 d'
  | 0, C, _, h0, _, _ => absurd h0 (Nat.not_lt_zero _)
  | fuel + 1, C, d, h0, hC, B => by
    rw [X7_layBox_L55, pk_mul]
    by_cases e : C = w * h
    · refine ⟨d, ?_, B.1, B.2.1, B.2.2.1, B.2.2.2.1, B.2.2.2.2.1, B.2.2.2.2.2.1, B.2.2.2.2.2.2.1, B.2.2.2.2.2.2.2.1, fun p hp c hc ho => B.2.2.2.2.2.2.2.2 p hp c hc (by omega)⟩
      rw [e, if_pos (nI_le (Nat.le_refl _) (by omega)), q_nm, nI_1]
    · have hC' : C < w * h := by omega
      obtain ⟨d', g1, g2⟩ := r_layL55 hm hP hn k46 fuel (C + 1) _ (by omega) (by omega) (B.put hm hP hn hC')
      refine ⟨d', ?_, g2⟩
      rw [if_neg (nI_ge hC' (by omega)), show nI n - (1 : Int32) = nI (n - 1) from pk_sub (b := 1) (by omega)]
      by_cases b : P = n - 1
      · rw [if_pos b] at g1
        rw [if_pos (show nI P = nI (n - 1) by rw [b])]
        simp (disch := omega) only [s_lit, s_b0, s_b1, s_b2, s_b3, s_b4, s_b5, s_b6, s_x0, s_x0l, s_t1, s_nm, s_ckT, s_ld, s_st, s_clamp, nI_add, pk_mul, s_sub, s_nad, s_div, s_mod, s_rem2, s_le_t, s_le_f, s_lt_t, s_lt_f, s_eq_t, s_eq_f, s_n1, s_n2, s_n3, s_n4, s_n5, s_n6, s_n7, s_n8, s_n9, s_n10, s_n11, s_n12, s_us, s_un, s_uLs, s_uLn, ↓reduceIte, not_false_eq_true, not_true_eq_false, true_and, and_true, and_self, or_false, false_or, or_self, true_or, or_true, false_and, and_false, Int32.neg_neg, Nat.add_zero, Nat.zero_add, Nat.reduceSub, Nat.reduceAdd, Nat.reduceMul, Nat.reduceLeDiff, X7_layBox_J88]
        exact g1
      · rw [if_neg b] at g1
        rw [if_neg (fun z => b (nI_inj (by omega) (by omega) z))]
        simp (disch := omega) only [s_lit, s_b0, s_b1, s_b2, s_b3, s_b4, s_b5, s_b6, s_x0, s_x0l, s_t1, s_nm, s_ckT, s_ld, s_st, s_clamp, nI_add, pk_mul, s_sub, s_nad, s_div, s_mod, s_rem2, s_le_t, s_le_f, s_lt_t, s_lt_f, s_eq_t, s_eq_f, s_n1, s_n2, s_n3, s_n4, s_n5, s_n6, s_n7, s_n8, s_n9, s_n10, s_n11, s_n12, s_us, s_un, s_uLs, s_uLn, ↓reduceIte, not_false_eq_true, not_true_eq_false, true_and, and_true, and_self, or_false, false_or, or_self, true_or, or_true, false_and, and_false, Int32.neg_neg, Nat.add_zero, Nat.zero_add, Nat.reduceSub, Nat.reduceAdd, Nat.reduceMul, Nat.reduceLeDiff, X7_layBox_J88]
        exact g1
theorem r_layL46 {w h n : Nat} (hm : w * h ≤ 96) (hn : n ≤ 5) : ∀ (fuel P : Nat) (d : Nat → Int32), n - P < fuel → P ≤ n → BegD w h n P 0 d → ∃ d', X7_layBox_L46 2243 (nI w) (nI h) (nI n) fuel (nI P) d = some d' ∧ BegD w h n n 0 d'
  | 0, P, _, h0, _, _ => absurd h0 (Nat.not_lt_zero _)
  | fuel + 1, P, d, h0, hP, B => by
    rw [X7_layBox_L46]
    by_cases e : P = n
    · subst e
      exact ⟨d, if_pos (nI_le (Nat.le_refl _) (by omega)), B⟩
    · have hP' : P < n := by omega
      obtain ⟨d1, g1, g2⟩ := r_layL55 hm hP' hn (fun z0 z1 => X7_layBox_L46 2243 (nI w) (nI h) (nI n) fuel z0 z1) FU 0 d (by unfold FU; omega) (Nat.zero_le _) B
      obtain ⟨d2, g3, g4⟩ := r_layL46 hm hn fuel (P + 1) d1 (by omega) (by omega) g2
      refine ⟨d2, ?_, g4⟩
      rw [if_neg (nI_ge hP' (by omega))]
      exact g1.trans g3
theorem r_layL3 {w h n : Nat} (hm : w * h ≤ 96) (hn : n ≤ 5) : ∀ (fuel k : Nat) (d : Nat → Int32), 2243 - k < fuel → k ≤ 2243 → (∀ j, j < k → d j = nI 0) → ∃ d', X7_layBox_L3 2243 (nI w) (nI h) (nI n) fuel (nI k) d = some d' ∧ BegD w h n n 0 d'
  | 0, k, _, h0, _, _ => absurd h0 (Nat.not_lt_zero _)
  | fuel + 1, k, d, h0, hk, Z => by
    rw [X7_layBox_L3]
    by_cases e : k = 2243
    · subst e
      rw [if_pos (show (2243 : Int32) ≤ nI 2243 from nI_le (a := 2243) (Nat.le_refl _) (by omega))]
      obtain ⟨d', g1, g2⟩ := r_layL46 hm hn FU 0 (upd (upd (upd (upd (upd d 0 (nI w)) 1 (nI h)) 2 (nI n)) 4 (nI 9)) 5 (nI 3)) (by unfold FU; omega) (Nat.zero_le _) (by
        refine ⟨?_, ?_, ?_, ?_, ?_, ?_, fun j h1 h2 => ?_, fun j h1 h2 => ?_, fun p hp c hc ho => absurd ho (by omega)⟩
        · simp (disch := omega) only [s_lit, s_b0, s_b1, s_b2, s_b3, s_b4, s_b5, s_b6, s_x0, s_x0l, s_t1, s_nm, s_ckT, s_ld, s_st, s_clamp, nI_add, pk_mul, s_sub, s_nad, s_div, s_mod, s_rem2, s_le_t, s_le_f, s_lt_t, s_lt_f, s_eq_t, s_eq_f, s_n1, s_n2, s_n3, s_n4, s_n5, s_n6, s_n7, s_n8, s_n9, s_n10, s_n11, s_n12, s_us, s_un, s_uLs, s_uLn, ↓reduceIte, not_false_eq_true, not_true_eq_false, true_and, and_true, and_self, or_false, false_or, or_self, true_or, or_true, false_and, and_false, Int32.neg_neg, Nat.add_zero, Nat.zero_add, Nat.reduceSub, Nat.reduceAdd, Nat.reduceMul, Nat.reduceLeDiff]
        · simp (disch := omega) only [s_lit, s_b0, s_b1, s_b2, s_b3, s_b4, s_b5, s_b6, s_x0, s_x0l, s_t1, s_nm, s_ckT, s_ld, s_st, s_clamp, nI_add, pk_mul, s_sub, s_nad, s_div, s_mod, s_rem2, s_le_t, s_le_f, s_lt_t, s_lt_f, s_eq_t, s_eq_f, s_n1, s_n2, s_n3, s_n4, s_n5, s_n6, s_n7, s_n8, s_n9, s_n10, s_n11, s_n12, s_us, s_un, s_uLs, s_uLn, ↓reduceIte, not_false_eq_true, not_true_eq_false, true_and, and_true, and_self, or_false, false_or, or_self, true_or, or_true, false_and, and_false, Int32.neg_neg, Nat.add_zero, Nat.zero_add, Nat.reduceSub, Nat.reduceAdd, Nat.reduceMul, Nat.reduceLeDiff]
        · simp (disch := omega) only [s_lit, s_b0, s_b1, s_b2, s_b3, s_b4, s_b5, s_b6, s_x0, s_x0l, s_t1, s_nm, s_ckT, s_ld, s_st, s_clamp, nI_add, pk_mul, s_sub, s_nad, s_div, s_mod, s_rem2, s_le_t, s_le_f, s_lt_t, s_lt_f, s_eq_t, s_eq_f, s_n1, s_n2, s_n3, s_n4, s_n5, s_n6, s_n7, s_n8, s_n9, s_n10, s_n11, s_n12, s_us, s_un, s_uLs, s_uLn, ↓reduceIte, not_false_eq_true, not_true_eq_false, true_and, and_true, and_self, or_false, false_or, or_self, true_or, or_true, false_and, and_false, Int32.neg_neg, Nat.add_zero, Nat.zero_add, Nat.reduceSub, Nat.reduceAdd, Nat.reduceMul, Nat.reduceLeDiff]
        · rw [pk_un (by omega), pk_un (by omega), pk_un (by omega), pk_un (by omega), pk_un (by omega)]; exact Z 3 (by omega)
        · simp (disch := omega) only [s_lit, s_b0, s_b1, s_b2, s_b3, s_b4, s_b5, s_b6, s_x0, s_x0l, s_t1, s_nm, s_ckT, s_ld, s_st, s_clamp, nI_add, pk_mul, s_sub, s_nad, s_div, s_mod, s_rem2, s_le_t, s_le_f, s_lt_t, s_lt_f, s_eq_t, s_eq_f, s_n1, s_n2, s_n3, s_n4, s_n5, s_n6, s_n7, s_n8, s_n9, s_n10, s_n11, s_n12, s_us, s_un, s_uLs, s_uLn, ↓reduceIte, not_false_eq_true, not_true_eq_false, true_and, and_true, and_self, or_false, false_or, or_self, true_or, or_true, false_and, and_false, Int32.neg_neg, Nat.add_zero, Nat.zero_add, Nat.reduceSub, Nat.reduceAdd, Nat.reduceMul, Nat.reduceLeDiff]
        · simp (disch := omega) only [s_lit, s_b0, s_b1, s_b2, s_b3, s_b4, s_b5, s_b6, s_x0, s_x0l, s_t1, s_nm, s_ckT, s_ld, s_st, s_clamp, nI_add, pk_mul, s_sub, s_nad, s_div, s_mod, s_rem2, s_le_t, s_le_f, s_lt_t, s_lt_f, s_eq_t, s_eq_f, s_n1, s_n2, s_n3, s_n4, s_n5, s_n6, s_n7, s_n8, s_n9, s_n10, s_n11, s_n12, s_us, s_un, s_uLs, s_uLn, ↓reduceIte, not_false_eq_true, not_true_eq_false, true_and, and_true, and_self, or_false, false_or, or_self, true_or, or_true, false_and, and_false, Int32.neg_neg, Nat.add_zero, Nat.zero_add, Nat.reduceSub, Nat.reduceAdd, Nat.reduceMul, Nat.reduceLeDiff]
        · rw [pk_un (by omega), pk_un (by omega), pk_un (by omega), pk_un (by omega), pk_un (by omega)]; exact Z j (by omega)
        · rw [pk_un (by omega), pk_un (by omega), pk_un (by omega), pk_un (by omega), pk_un (by omega)]; exact Z j (by omega))
      refine ⟨d', ?_, g2⟩
      rw [q_st (i := (0 : Int32)) _ 0 _ rfl (by omega) (by omega), q_st (i := (1 : Int32)) _ 1 _ rfl (by omega) (by omega), q_st (i := (2 : Int32)) _ 2 _ rfl (by omega) (by omega), q_st (i := (4 : Int32)) _ 4 _ rfl (by omega) (by omega), q_st (i := (5 : Int32)) _ 5 _ rfl (by omega) (by omega), show Int32.toNatClampNeg 0 = 0 from by decide +kernel, show Int32.toNatClampNeg 1 = 1 from by decide +kernel, show Int32.toNatClampNeg 2 = 2 from by decide +kernel, show Int32.toNatClampNeg 4 = 4 from by decide +kernel, show Int32.toNatClampNeg 5 = 5 from by decide +kernel]
      exact g1
    · have hk' : k < 2243 := by omega
      rw [if_neg (show ¬ (2243 : Int32) ≤ nI k from nI_ge (b := 2243) hk' (by omega)), q_st _ k _ rfl hk' (by omega), nI_clamp (by omega), q_nm, nI_1]
      refine r_layL3 hm hn fuel (k + 1) _ (by omega) (by omega) (fun j hj => ?_)
      by_cases ej : j = k
      · rw [ej, pk_us]; rfl
      · rw [pk_un ej]; exact Z j (by omega)
theorem r_layBox {w h n : Nat} (hm : w * h ≤ 96) (hn : n ≤ 5) (o : Nat → Int32) : ∃ d', X7_layBox 2243 o (nI w) (nI h) (nI n) = some d' ∧ BegD w h n n 0 d' := by
  unfold X7_layBox
  exact r_layL3 hm hn FU 0 o (by unfold FU; omega) (Nat.zero_le _) (fun j hj => absurd hj (Nat.not_lt_zero _))
/-- the class's show begins -/
theorem q_begin {w h n : Nat} (hw : w ≤ 12) (hh : h ≤ 8) (hn0 : 0 < n) (hn : n ≤ 5) (a1 a2 a3 a4 a5 : Int32) (a6 a7 : Nat → Int32) (a8 : Int32) (a9 : Nat → Int32) (a10 a11 a12 : Int32) (a13 : Nat → Int32) : ∃ c p l, X4_begin a1 a2 a3 a4 a5 a6 a7 a8 a9 a10 a11 a12 a13 (nI w) (nI h) (nI n) = some (nI w, nI h, nI n, nI 0, nI 9, c, p, nI 3, upd (upd (upd a9 0 (nI 1)) 1 (-nI 1)) 2 (-nI 43), nI 0, nI 3, nI 0, l) ∧ BegC n w h (h * w) c ∧ (∀ m, m < 5 → p m = nI 0) ∧ ∀ m, m < 4 → l m = -nI 1 := by
  obtain ⟨c, g1, g2⟩ := q_begL45 (w := w) (h := h) (n := n) hw hh hn0 hn a8 a9 (nI w) (nI h) (nI n) (nI 0) (nI 9) (cpN (fun _ => 0) a7 5) FU 0 (cpN (fun _ => -1) a6 480) (by unfold FU; omega) (Nat.zero_le _) ⟨fun m hm => if_pos (by omega), fun y _ x _ ht => absurd ht (by omega)⟩
  refine ⟨c, cpN (fun _ => 0) a7 5, cpN (fun _ => -1) a13 4, ?_, g2, fun m hm => if_pos hm, fun m hm => if_pos hm⟩
  have h0 : X0_begin a1 a2 a3 a4 a5 a6 a7 a8 a9 (nI w) (nI h) (nI n) = some (nI w, nI h, nI n, nI 0, nI 9, c, cpN (fun _ => 0) a7 5, nI 3, upd (upd (upd a9 0 (nI 1)) 1 (-nI 1)) 2 (-nI 43)) := by
    unfold X0_begin
    rw [q_b1 (q_fill (by omega)), q_b1 (q_fill (by omega))]
    exact g1
  have h1 : X1_begin a10 a11 a12 a13 = some (nI 0, nI 3, nI 0, cpN (fun _ => -1) a13 4) := by
    unfold X1_begin
    rw [q_b1 (q_fill (by omega))]
    rfl
  unfold X4_begin
  rw [q_b9 h0, q_b4 h1]
/-- .. against the reference's -/
theorem BegC.draft {w h n : Nat} (w0 : 0 < w) (hw : w ≤ 12) (h0 : 0 < h) (hh : h ≤ 8) (hn0 : 0 < n) (hn : n ≤ 5) {c p l d pc : Nat → Int32} (hx hy : Nat → Nat) (holeX holeY fa : Nat → Int32) (B : BegC n w h (h * w) c) (hp : ∀ m, m < 5 → p m = nI 0) (hl : ∀ m, m < 4 → l m = -nI 1) (D : BegD w h n n 0 d) : DraftN w h n 0 3 0 3 9 hx hy c p holeX holeY (upd (upd (upd pc 0 (nI 1)) 1 (-nI 1)) 2 (-nI 43)) l fa d := by
  obtain ⟨b0, b1, b2, b3, b4, b5, b6, b7, b8⟩ := D
  have hB1 : ∀ q, q < n → ∀ y, y < h → ∀ x, x < w → c (q * 96 + y * 12 + x) = if q = n - 1 then nI 0 else -nI 1 := fun q hq y hy x hx => by
    by_cases e : q = n - 1
    · rw [if_pos e, e]
      have := tgt_lt hx hy
      rw [Nat.mul_comm w h] at this
      exact B.2 y hy x hx this
    · rw [if_neg e]; exact B.1 _ (by omega)
  have o0 : opc (nI 1) = false := opc_n 1 (by omega)
  have o1 : opc (-nI 1) = false := by decide +kernel
  have o2 : opc (-nI 43) = true := by decide +kernel
  have e0 : upd (upd (upd pc 0 (nI 1)) 1 (-nI 1)) 2 (-nI 43) 0 = nI 1 := by rw [pk_un (by omega), pk_un (by omega), pk_us]
  have e1 : upd (upd (upd pc 0 (nI 1)) 1 (-nI 1)) 2 (-nI 43) 1 = -nI 1 := by rw [pk_un (by omega), pk_us]
  have e2 : upd (upd (upd pc 0 (nI 1)) 1 (-nI 1)) 2 (-nI 43) 2 = -nI 43 := pk_us
  have g1 : hOf (upd (upd (upd pc 0 (nI 1)) 1 (-nI 1)) 2 (-nI 43)) 1 = 1 := hOf_no (by rw [e0]; exact o0)
  have g2 : hOf (upd (upd (upd pc 0 (nI 1)) 1 (-nI 1)) 2 (-nI 43)) 2 = 2 := (hOf_no (by rw [e1]; exact o1)).trans (by rw [g1])
  have g3 : hOf (upd (upd (upd pc 0 (nI 1)) 1 (-nI 1)) 2 (-nI 43)) 3 = 1 := (hOf_op (by rw [e2]; exact o2)).trans (by rw [g2])
  refine ⟨⟨⟨⟨w0, hw⟩, ⟨h0, hh⟩, ⟨hn0, hn⟩, by omega, fun q _ => Nat.zero_le _, fun k hk => absurd hk (by omega)⟩, ⟨fun q hq y hy x hx => ?_, fun y hy x hx => ?_, rfl⟩, ⟨fun q hq => hp q (by omega), fun k hk => absurd hk (by omega)⟩, b0, b1, b2, b3, fun q hq => b6 _ (by omega) (by omega), fun q hq y hy x hx => ?_, fun k hk => absurd hk (by omega)⟩, ⟨⟨by omega, by omega, fun i hi => ?_⟩, Or.inl ⟨b6 8 (by omega) (by omega), rfl, e0, e1, e2⟩⟩, ⟨by omega, by omega, by omega, by omega⟩, ⟨b4, b5, b6 6 (by omega) (by omega), b6 7 (by omega) (by omega)⟩, hl, ⟨fun v hv => absurd hv (by omega), fun k hk => absurd hk (by omega)⟩, fun v hv => absurd hv (by omega)⟩
  · rw [hB1 q hq y hy x hx]
    by_cases e : q = n - 1
    · rw [if_pos e]; exact Or.inr ⟨0, by omega, rfl⟩
    · rw [if_neg e]; exact Or.inl rfl
  · rw [hB1 (n - 1) (by omega) y hy x hx, if_pos rfl]
    exact ne_m1 (by omega)
  · rw [hB1 q hq y hy x hx]
    have := tgt_lt hx hy
    have h2 := b8 q hq (w * y + x) (by rw [Nat.mul_comm w y]; exact this) (Or.inl hq)
    rw [show 15 + 96 * q + w * y + x = 15 + 96 * q + (w * y + x) by omega]
    exact h2
  · rcases (show i = 0 ∨ i = 1 ∨ i = 2 by omega) with e | e | e <;> subst e
    · exact Or.inr ⟨by rw [e0]; exact o0, by show 0 < 16; omega⟩
    · exact Or.inr ⟨by rw [e1]; exact o1, by rw [g1]; omega⟩
    · exact Or.inl ⟨by rw [e2]; exact o2, by rw [g2]; omega, nI 2, by rw [e2]; exact Or.inl ⟨rfl, rfl⟩⟩
