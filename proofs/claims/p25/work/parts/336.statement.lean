/-! PHASE 2: statements of a setup text -/
theorem s_b7 {A0 A1 A2 A3 A4 A5 A6 β : Type} (a0 : A0) (a1 : A1) (a2 : A2) (a3 : A3) (a4 : A4) (a5 : A5) (a6 : A6) (k : A0 → A1 → A2 → A3 → A4 → A5 → A6 → Option β) : bn7 (some (a0, a1, a2, a3, a4, a5, a6)) k = k a0 a1 a2 a3 a4 a5 a6 := Eq.trans rfl rfl
theorem q_ck1 {β : Type} (k : Option β) : ck (nI 1 = 0 ∨ nI 1 = 1) k = k := q_ck (Or.inr rfl) k
theorem q_ck0 {β : Type} (k : Option β) : ck (nI 0 = 0 ∨ nI 0 = 1) k = k := q_ck (Or.inl rfl) k
section STM
variable {E : Nat} {bytes buffer : Nat → Int32} {tx : Nat → Nat}
/-- a hole -/
theorem t_holeS (T : Txt E bytes buffer tx) {w h q HN st : Nat} (w0 : 0 < w) (hw : w ≤ 12) (h0 : 0 < h) (hh : h ≤ 8) (hq : q ≤ E) (hH : HN ≤ 4) {d : Nat → Int32} (d0 : d 0 = nI w) (d1 : d 1 = nI h) (d3 : d 3 = nI HN) (holeX holeY : Nat → Int32) (num ns : Int32) :
    (∃ p' num' ns' x y, x < w ∧ y < h ∧ HN < 4 ∧ q < p' ∧ p' ≤ E ∧ X3_readHole (nI 0) (-nI 1) (nI E) (nI q) num (nI w) (nI h) (nI HN) holeX holeY bytes (nI st) = some (nI 1, nI 0, -nI 1, nI p', num', nI (HN + 1), upd holeX HN (nI x), upd holeY HN (nI y)) ∧
      X7_readHole (nI E) (nI q) (nI 0) (-nI 1) ns buffer d (nI st) = some (nI p', nI 0, -nI 1, ns', upd (upd (upd d (495 + 2 * HN) (nI x)) (495 + 2 * HN + 1) (nI y)) 3 (nI (HN + 1)))) ∨
    ∃ k of a b c e f a' b' d', 2 ≤ k ∧ k ≤ 6 ∧ X3_readHole (nI 0) (-nI 1) (nI E) (nI q) num (nI w) (nI h) (nI HN) holeX holeY bytes (nI st) = some (nI 0, -nI k, nI of, a, b, c, e, f) ∧ X7_readHole (nI E) (nI q) (nI 0) (-nI 1) ns buffer d (nI st) = some (a', -nI k, nI of, b', d') := by
  have hE := T.1
  have hn0 : ¬ nI 1 = 0 := by decide +kernel
  have hg : X7_isGood (nI 0) = some (nI 1) := rfl
  have hw1 : nI w - 1 = nI (w - 1) := pk_sub (b := 1) (by omega)
  have hh1 : nI h - 1 = nI (h - 1) := pk_sub (b := 1) (by omega)
  unfold X3_readHole X7_readHole
  rw [q_ld (i := (3 : Int32)) d 3 _ rfl (by omega) (by omega), d3]
  by_cases e : HN = 4
  · subst e
    rw [if_neg (show ¬ nI 4 < (4 : Int32) by decide +kernel), if_pos (show nI 4 = (4 : Int32) from rfl), q_b2 (show X7_report (nI 0) (-nI 1) (-5) (nI st) = some (-nI 5, nI st) from rfl)]
    unfold X7_readHole_J17
    rw [q_ld (i := (0 : Int32)) d 0 _ rfl (by omega) (by omega), q_b5 (r_numberErr (k := 5) (by omega) (by omega) _ _ _ _ _ _), q_ld (i := (1 : Int32)) d 1 _ rfl (by omega) (by omega), q_b5 (r_numberErr (k := 5) (by omega) (by omega) _ _ _ _ _ _), q_b1 (ne_err (k := 5) (by omega) (by omega)), if_pos (show nI 0 = 0 from rfl)]
    rw [q_b3 (show X3_fail (nI 0) (-nI 1) (-5) (nI st) = some (0, -5, nI st) from rfl), q_ck (Or.inl rfl)]
    exact Or.inr ⟨5, st, _, _, _, _, _, _, _, _, by omega, by omega, rfl, rfl⟩
  · have hlt : HN < 4 := by omega
    rw [if_pos (show nI HN < (4 : Int32) from nI_lt (b := 4) hlt (by omega)), if_neg (show ¬ nI HN = (4 : Int32) from fun z => e (nI_inj (b := 4) (by omega) (by omega) z))]
    unfold X7_readHole_J17
    rw [q_ld (i := (0 : Int32)) d 0 _ rfl (by omega) (by omega), d0, hw1]
    rcases t_number T hq (lo := 0) (hi := w - 1) (by omega) (by omega) num ns with ⟨x, p1, x1, x2, x3, x4, x5, x6⟩ | ⟨k, of, a, m', r, b, s, k1, k2, k3, k4⟩
    · rw [q_b5 (show X3_readNumber (nI 0) (-nI 1) (nI E) (nI q) num bytes 0 (nI (w - 1)) = _ from x5), q_b5 (show X7_number (nI E) (nI q) (nI 0) (-nI 1) ns buffer 0 (nI (w - 1)) = _ from x6), if_neg hn0, q_ld (i := (1 : Int32)) d 1 _ rfl (by omega) (by omega), d1, hh1]
      rcases t_number T x4 (lo := 0) (hi := h - 1) (by omega) (by omega) (nI x) (nI (sk E tx q)) with ⟨y, p2, y1, y2, y3, y4, y5, y6⟩ | ⟨k, of, a, m', r, b, s, k1, k2, k3, k4⟩
      · rw [q_b5 (show X3_readNumber (nI 0) (-nI 1) (nI E) (nI p1) (nI x) bytes 0 (nI (h - 1)) = _ from y5), q_b5 (show X7_number (nI E) (nI p1) (nI 0) (-nI 1) (nI (sk E tx q)) buffer 0 (nI (h - 1)) = _ from y6), if_neg hn0, q_b1 hg, if_neg hn0]
        refine Or.inl ⟨p2, nI y, nI (sk E tx p1), x, y, by omega, by omega, hlt, by omega, y4, ?_, ?_⟩
        · simp (disch := omega) only [s_lit, s_b0, s_b1, s_b2, s_b3, s_b4, s_b5, s_b6, s_x0, s_x0l, s_t1, s_nm, s_ckT, s_ld, s_st, s_clamp, nI_add, pk_mul, s_sub, s_nad, s_div, s_mod, s_rem2, s_le_t, s_le_f, s_lt_t, s_lt_f, s_eq_t, s_eq_f, s_n1, s_n2, s_n3, s_n4, s_n5, s_n6, s_n7, s_n8, s_n9, s_n10, s_n11, s_n12, s_us, s_un, s_uLs, s_uLn, ↓reduceIte, not_false_eq_true, not_true_eq_false, true_and, and_true, and_self, or_false, false_or, or_self, true_or, or_true, false_and, and_false, Int32.neg_neg, Nat.add_zero, Nat.zero_add, Nat.reduceSub, Nat.reduceAdd, Nat.reduceMul, Nat.reduceLeDiff, X0_addHole]
        · simp (disch := omega) only [s_lit, s_b0, s_b1, s_b2, s_b3, s_b4, s_b5, s_b6, s_x0, s_x0l, s_t1, s_nm, s_ckT, s_ld, s_st, s_clamp, nI_add, pk_mul, s_sub, s_nad, s_div, s_mod, s_rem2, s_le_t, s_le_f, s_lt_t, s_lt_f, s_eq_t, s_eq_f, s_n1, s_n2, s_n3, s_n4, s_n5, s_n6, s_n7, s_n8, s_n9, s_n10, s_n11, s_n12, s_us, s_un, s_uLs, s_uLn, ↓reduceIte, not_false_eq_true, not_true_eq_false, true_and, and_true, and_self, or_false, false_or, or_self, true_or, or_true, false_and, and_false, Int32.neg_neg, Nat.add_zero, Nat.zero_add, Nat.reduceSub, Nat.reduceAdd, Nat.reduceMul, Nat.reduceLeDiff, d3]
      · rw [q_b5 (show X3_readNumber (nI 0) (-nI 1) (nI E) (nI p1) (nI x) bytes 0 (nI (h - 1)) = _ from k3), q_b5 (show X7_number (nI E) (nI p1) (nI 0) (-nI 1) (nI (sk E tx q)) buffer 0 (nI (h - 1)) = _ from k4), if_pos (show nI 0 = 0 from rfl), q_b1 (ne_err k1 k2), if_pos (show nI 0 = 0 from rfl)]
        exact Or.inr ⟨k, of, _, _, _, _, _, _, _, _, k1, k2, rfl, rfl⟩
    · rw [q_b5 (show X3_readNumber (nI 0) (-nI 1) (nI E) (nI q) num bytes 0 (nI (w - 1)) = _ from k3), q_b5 (show X7_number (nI E) (nI q) (nI 0) (-nI 1) ns buffer 0 (nI (w - 1)) = _ from k4), if_pos (show nI 0 = 0 from rfl), q_ld (i := (1 : Int32)) d 1 _ rfl (by omega) (by omega), q_b5 (r_numberErr k1 k2 _ _ _ _ _ _), q_b1 (ne_err k1 k2), if_pos (show nI 0 = 0 from rfl)]
      exact Or.inr ⟨k, of, _, _, _, _, _, _, _, _, k1, k2, rfl, rfl⟩
theorem r_kindErr {k : Nat} (h2 : 2 ≤ k) (h6 : k ≤ 6) (E o ea : Int32) : X7_kind E o (-nI k) ea buffer = some (0, o, -nI k, ea) := by
  unfold X7_kind
  rw [q_b1 (ne_err h2 h6), if_pos (show nI 0 = 0 from rfl)]
/-- a viewer -/
theorem t_viewS (T : Txt E bytes buffer tx) {q V st : Nat} (hq : q ≤ E) (hV : V ≤ 20) {d : Nat → Int32} (d7 : d 7 = nI V) (fa : Nat → Int32) (num ns : Int32) :
    (∃ p' num' ns' a b c, a ≤ 9 ∧ b < 26 ∧ c ≤ 999 ∧ V < 20 ∧ q < p' ∧ p' ≤ E ∧ X3_readViewer (nI 0) (-nI 1) (nI E) (nI q) num (nI V) fa bytes (nI st) = some (nI 1, nI 0, -nI 1, nI p', num', nI (V + 1), addF fa V a b c) ∧
      X7_readViewer (nI E) (nI q) (nI 0) (-nI 1) ns buffer d (nI st) = some (nI p', nI 0, -nI 1, ns', addD d V a b c)) ∨
    ∃ k of a b c e a' b' d', 2 ≤ k ∧ k ≤ 6 ∧ X3_readViewer (nI 0) (-nI 1) (nI E) (nI q) num (nI V) fa bytes (nI st) = some (nI 0, -nI k, nI of, a, b, c, e) ∧ X7_readViewer (nI E) (nI q) (nI 0) (-nI 1) ns buffer d (nI st) = some (a', -nI k, nI of, b', d') := by
  have hE := T.1
  have hn0 : ¬ nI 1 = 0 := by decide +kernel
  have hg : X7_isGood (nI 0) = some (nI 1) := rfl
  unfold X3_readViewer X7_readViewer
  rw [q_ld (i := (7 : Int32)) d 7 _ rfl (by omega) (by omega), d7]
  by_cases e : V = 20
  · subst e
    rw [q_b1 (show X1_isFull (nI 20) = some (nI 1) from rfl), if_neg hn0, if_pos (show nI 20 = (20 : Int32) from rfl), q_b2 (show X7_report (nI 0) (-nI 1) (-5) (nI st) = some (-nI 5, nI st) from rfl)]
    unfold X7_readViewer_J19
    rw [q_b5 (r_numberErr (k := 5) (by omega) (by omega) _ _ _ _ _ _), q_b4 (r_kindErr (k := 5) (by omega) (by omega) _ _ _), q_b5 (r_numberErr (k := 5) (by omega) (by omega) _ _ _ _ _ _), q_b1 (ne_err (k := 5) (by omega) (by omega)), if_pos (show nI 0 = 0 from rfl)]
    rw [q_b3 (show X3_fail (nI 0) (-nI 1) (-5) (nI st) = some (0, -5, nI st) from rfl), q_ck (Or.inl rfl)]
    exact Or.inr ⟨5, st, _, _, _, _, _, _, _, by omega, by omega, rfl, rfl⟩
  · have hlt : V < 20 := by omega
    have hfull : X1_isFull (nI V) = some (nI 0) := by
      unfold X1_isFull
      simp (disch := omega) only [s_lit, s_b0, s_b1, s_b2, s_b3, s_b4, s_b5, s_b6, s_x0, s_x0l, s_t1, s_nm, s_ckT, s_ld, s_st, s_clamp, nI_add, pk_mul, s_sub, s_nad, s_div, s_mod, s_rem2, s_le_t, s_le_f, s_lt_t, s_lt_f, s_eq_t, s_eq_f, s_n1, s_n2, s_n3, s_n4, s_n5, s_n6, s_n7, s_n8, s_n9, s_n10, s_n11, s_n12, s_us, s_un, s_uLs, s_uLn, ↓reduceIte, not_false_eq_true, not_true_eq_false, true_and, and_true, and_self, or_false, false_or, or_self, true_or, or_true, false_and, and_false, Int32.neg_neg, Nat.add_zero, Nat.zero_add, Nat.reduceSub, Nat.reduceAdd, Nat.reduceMul, Nat.reduceLeDiff]
    rw [q_b1 hfull, if_pos (show nI 0 = 0 from rfl), if_neg (show ¬ nI V = (20 : Int32) from fun z => e (nI_inj (b := 20) (by omega) (by omega) z))]
    unfold X7_readViewer_J19
    rcases t_number T hq (lo := 0) (hi := 9) (by omega) (by omega) num ns with ⟨x, p1, x1, x2, x3, x4, x5, x6⟩ | ⟨k, of, a, m', r, b, s, k1, k2, k3, k4⟩
    · rw [q_b5 (show X3_readNumber (nI 0) (-nI 1) (nI E) (nI q) num bytes 0 9 = _ from x5), q_b5 (show X7_number (nI E) (nI q) (nI 0) (-nI 1) ns buffer 0 9 = _ from x6), if_neg hn0]
      rcases t_kind T x4 (nI x) with ⟨y, p2, y2, y3, y4, y5, y6⟩ | ⟨k, of, a, m', r, b, k1, k2, k3, k4⟩
      · rw [q_b5 y5, q_b4 y6, if_neg hn0]
        rcases t_number T y4 (lo := 0) (hi := 999) (by omega) (by omega) (nI y) (nI (sk E tx q)) with ⟨z, p3, z1, z2, z3, z4, z5, z6⟩ | ⟨k, of, a, m', r, b, s, k1, k2, k3, k4⟩
        · rw [q_b5 (show X3_readNumber (nI 0) (-nI 1) (nI E) (nI p2) (nI y) bytes 0 999 = _ from z5), q_b5 (show X7_number (nI E) (nI p2) (nI 0) (-nI 1) (nI (sk E tx q)) buffer 0 999 = _ from z6), if_neg hn0, q_b1 hg, if_neg hn0, q_b2 (q_add fa hlt), q_b1 (r_add hlt d7)]
          exact Or.inl ⟨p3, nI z, nI (sk E tx p2), x, y, z, x2, y2, z2, hlt, by omega, z4, rfl, rfl⟩
        · rw [q_b5 (show X3_readNumber (nI 0) (-nI 1) (nI E) (nI p2) (nI y) bytes 0 999 = _ from k3), q_b5 (show X7_number (nI E) (nI p2) (nI 0) (-nI 1) (nI (sk E tx q)) buffer 0 999 = _ from k4), if_pos (show nI 0 = 0 from rfl), q_b1 (ne_err k1 k2), if_pos (show nI 0 = 0 from rfl)]
          exact Or.inr ⟨k, of, _, _, _, _, _, _, _, k1, k2, rfl, rfl⟩
      · rw [q_b5 k3, q_b4 k4, if_pos (show nI 0 = 0 from rfl), q_b5 (r_numberErr k1 k2 _ _ _ _ _ _), q_b1 (ne_err k1 k2), if_pos (show nI 0 = 0 from rfl)]
        exact Or.inr ⟨k, of, _, _, _, _, _, _, _, k1, k2, rfl, rfl⟩
    · rw [q_b5 (show X3_readNumber (nI 0) (-nI 1) (nI E) (nI q) num bytes 0 9 = _ from k3), q_b5 (show X7_number (nI E) (nI q) (nI 0) (-nI 1) ns buffer 0 9 = _ from k4), if_pos (show nI 0 = 0 from rfl), q_b4 (r_kindErr k1 k2 _ _ _), q_b5 (r_numberErr k1 k2 _ _ _ _ _ _), q_b1 (ne_err k1 k2), if_pos (show nI 0 = 0 from rfl)]
      exact Or.inr ⟨k, of, _, _, _, _, _, _, _, k1, k2, rfl, rfl⟩
/-- what a statement comes to -/
def StR (E : Nat) (buffer : Nat → Int32) (w h n p : Nat) (pulls lk : Nat → Int32) (c : Option (Int32 × Int32 × Int32 × Int32 × Int32 × Int32 × Int32 × Int32 × Int32 × Int32 × Int32 × (Nat → Int32) × (Nat → Int32) × (Nat → Int32) × Int32 × (Nat → Int32) × Int32 × Int32 × (Nat → Int32))) (r : Option (Int32 × Int32 × Int32 × Int32 × Int32 × Int32 × Int32 × (Nat → Int32))) : Prop :=
  (∃ (p' pt' s' HN' rc' sz' V' LL' : Nat) (hx' hy' : Nat → Nat) (cells' holeX' holeY' codes' fa' d' : Nat → Int32) (num' ns' : Int32), p < p' ∧ p' ≤ E ∧ c = some (nI 1, nI 0, -nI 1, nI p', num', nI pt', nI (s' % 2), nI (s' / 2 % 2), nI (s' / 4 % 2), nI HN', nI rc', cells', holeX', holeY', nI sz', codes', nI V', nI LL', fa') ∧
    r = X7_statement_J160 (nI E) buffer (nI p') (nI 0) (-nI 1) ns' (nI 0) (nI s') (nI pt') d' ∧ DraftN w h n HN' sz' V' LL' rc' hx' hy' cells' pulls holeX' holeY' codes' lk fa' d' ∧ pt' ≤ n ∧ s' < 8 ∧ (s' / 4 % 2 = 0 → d' 9 = nI 0) ∧ (HN' = 0 → d' 495 = nI 0 ∧ d' 496 = nI 0)) ∨
  ∃ (k of : Nat) (a1 a2 a3 a4 a5 a6 a7 a8 : Int32) (a9 a10 a11 : Nat → Int32) (a12 : Int32) (a13 : Nat → Int32) (a14 a15 : Int32) (a16 : Nat → Int32) (b1 b2 b3 b4 b5 : Int32) (d' : Nat → Int32), 2 ≤ k ∧ k ≤ 6 ∧ c = some (nI 0, -nI k, nI of, a1, a2, a3, a4, a5, a6, a7, a8, a9, a10, a11, a12, a13, a14, a15, a16) ∧ r = X7_statement_J160 (nI E) buffer b1 (-nI k) (nI of) b2 b3 b4 b5 d'
theorem t_statement (T : Txt E bytes buffer tx) {w h n HN sz V LL rc p pt s : Nat} {hx hy : Nat → Nat} {cells pulls holeX holeY codes : Nat → Int32} {lk fa d : Nat → Int32} (N : DraftN w h n HN sz V LL rc hx hy cells pulls holeX holeY codes lk fa d) (hpt : pt ≤ n) (hs : s < 8) (h9 : s / 4 % 2 = 0 → d 9 = nI 0) (hz : HN = 0 → d 495 = nI 0 ∧ d 496 = nI 0) (hp : p ≤ E) (hsk : sk E tx p = p) (num ns : Int32) :
    StR E buffer w h n p pulls lk (X3_readStatement (nI 0) (-nI 1) (nI E) (nI p) num (nI pt) (nI (s % 2)) (nI (s / 2 % 2)) (nI (s / 4 % 2)) (nI w) (nI h) (nI n) (nI HN) (nI rc) cells holeX holeY (nI sz) codes (nI V) (nI LL) fa bytes) (X7_statement (nI E) (nI p) (nI 0) (-nI 1) ns (nI 0) (nI s) (nI pt) buffer d) := by
  have hE := T.1
  have hn0 : ¬ nI 1 = 0 := by decide +kernel
  have ha := t_ahead T hp
  rw [hsk] at ha
  have s1 := N.1.1.1
  have s2 := N.1.1.2.1
  have s3 := N.1.1.2.2.1
  have s4 := N.1.1.2.2.2.1
  have dw := N.1.2.2.2.1
  have dh := N.1.2.2.2.2.1
  have dn := N.1.2.2.2.2.2.1
  have dH := N.1.2.2.2.2.2.2.1
  have d7 := N.2.2.2.1.2.2.2
  have hV := N.2.2.1.2.1
  unfold X3_readStatement X7_statement
  rw [q_b2 ha]
  rcases t_word w_plane T hp hsk with ⟨g1, g2, g3⟩ | ⟨g1, g2⟩
  · rw [q_b2 g1, q_b2 g2, if_neg hn0, if_neg hn0]
    rcases t_plane2 T s1.1 s1.2 s2.2 s3.2 hpt g3 (st := p) dn dw dh N.start with ⟨q', c1, d1, k1, k2, k3, k4, k5, k6⟩ | ⟨k, of, a, t, c1, b, t', d1, k1, k2, k3, k4⟩
    · rw [q_b6 k4, q_b5 k5, q_ck1]
      exact Or.inl ⟨q', pt + 1, s, HN, rc, sz, V, LL, hx, hy, c1, holeX, holeY, codes, fa, d1, num, ns, by omega, k2, rfl, rfl, N.line k6, k3, hs, fun z => (k6.2.2 9 (by omega)).trans (h9 z), fun z => ⟨(k6.2.2 495 (by omega)).trans (hz z).1, (k6.2.2 496 (by omega)).trans (hz z).2⟩⟩
    · rw [q_b6 k3, q_b5 k4, q_ck0]
      exact Or.inr ⟨k, of, _, _, _, _, _, _, _, _, _, _, _, _, _, _, _, _, _, _, _, _, _, _, k1, k2, rfl, rfl⟩
  · rw [q_b2 g1, q_b2 g2, if_pos (show nI 0 = 0 from rfl), if_pos (show nI 0 = 0 from rfl)]
    rcases t_word w_hole T hp hsk with ⟨g1, g2, g3⟩ | ⟨g1, g2⟩
    · rw [q_b2 g1, q_b2 g2, if_neg hn0, if_neg hn0]
      rcases t_holeS T s1.1 s1.2 s2.1 s2.2 g3 s4 (st := p) dw dh dH holeX holeY num ns with ⟨p', num', ns', x, y, k1, k2, k3, k4, k5, k6, k7⟩ | ⟨k, of, a, b, c, e, f, a', b', d', k1, k2, k3, k4⟩
      · rw [q_b8 k6, q_b5 k7, q_ck1]
        exact Or.inl ⟨p', pt, s, HN + 1, rc, sz, V, LL, _, _, cells, _, _, codes, fa, _, num', ns', by omega, k5, rfl, rfl, N.hole k1 k2 k3, hpt, hs, fun z => by rw [pk_un (by omega), pk_un (by omega), pk_un (by omega)]; exact h9 z, fun z => absurd z (by omega)⟩
      · rw [q_b8 k3, q_b5 k4, q_ck0]
        exact Or.inr ⟨k, of, _, _, _, _, _, _, _, _, _, _, _, _, _, _, _, _, _, _, _, _, _, _, k1, k2, rfl, rfl⟩
    · rw [q_b2 g1, q_b2 g2, if_pos (show nI 0 = 0 from rfl), if_pos (show nI 0 = 0 from rfl)]
      rcases t_word w_reach T hp hsk with ⟨g1, g2, g3⟩ | ⟨g1, g2⟩
      · rw [q_b2 g1, q_b2 g2, if_neg hn0, if_neg hn0]
        unfold X3_readReach
        rcases r_once (s := s) (b := 0) hs (by omega) (nI p) with ⟨o1, o2⟩ | ⟨o1, o2⟩
        · have e1 : s % 2 = 1 := by simpa using o1
          rw [q_b3 (show X7_once (nI 0) (-nI 1) (nI s) 0 (nI p) = _ from o2), e1, if_neg hn0, q_b5 (r_numberErr (k := 2) (by omega) (by omega) _ _ _ _ _ _), q_st (i := (4 : Int32)) _ 4 _ rfl (by omega) (by omega)]
          rw [q_b3 (show X3_fail (nI 0) (-nI 1) (-2) (nI p) = some (0, -2, nI p) from rfl), q_ck (Or.inl rfl), s_b7, q_ck (Or.inl rfl)]
          exact Or.inr ⟨2, p, _, _, _, _, _, _, _, _, _, _, _, _, _, _, _, _, _, _, _, _, _, _, by omega, by omega, rfl, rfl⟩
        · have e1 : s % 2 = 0 := by simpa using o1
          rw [q_b3 (show X7_once (nI 0) (-nI 1) (nI s) 0 (nI p) = _ from o2), e1, if_pos (show nI 0 = 0 from rfl)]
          rcases t_number T g3 (lo := 0) (hi := 9) (by omega) (by omega) num ns with ⟨x, p1, x1, x2, x3, x4, x5, x6⟩ | ⟨k, of, a, m', r, b, s', k1, k2, k3, k4⟩
          · rw [q_b5 (show X3_readNumber (nI 0) (-nI 1) (nI E) (nI (p + 5)) num bytes 0 9 = _ from x5), q_b5 (show X7_number (nI E) (nI (p + 5)) (nI 0) (-nI 1) ns buffer 0 9 = _ from x6), if_neg hn0, s_b7, q_ck (Or.inr rfl), q_st (i := (4 : Int32)) _ 4 _ rfl (by omega) (by omega)]
            refine Or.inl ⟨p1, pt, s + 1, HN, x, sz, V, LL, hx, hy, cells, holeX, holeY, codes, fa, upd d 4 (nI x), nI x, _, by omega, x4, ?_, rfl, N.reach x2, hpt, by omega, fun z => by rw [pk_un (by omega)]; exact h9 (by omega), fun z => ⟨(pk_un (by omega)).trans (hz z).1, (pk_un (by omega)).trans (hz z).2⟩⟩
            rw [show (s + 1) % 2 = 1 by omega, show (s + 1) / 2 % 2 = s / 2 % 2 by omega, show (s + 1) / 4 % 2 = s / 4 % 2 by omega]
            rfl
          · rw [q_b5 (show X3_readNumber (nI 0) (-nI 1) (nI E) (nI (p + 5)) num bytes 0 9 = _ from k3), q_b5 (show X7_number (nI E) (nI (p + 5)) (nI 0) (-nI 1) ns buffer 0 9 = _ from k4), if_pos (show nI 0 = 0 from rfl), s_b7, q_ck (Or.inl rfl), q_st (i := (4 : Int32)) _ 4 _ rfl (by omega) (by omega)]
            exact Or.inr ⟨k, of, _, _, _, _, _, _, _, _, _, _, _, _, _, _, _, _, _, _, _, _, _, _, k1, k2, rfl, rfl⟩
      · rw [q_b2 g1, q_b2 g2, if_pos (show nI 0 = 0 from rfl), if_pos (show nI 0 = 0 from rfl)]
        rcases t_word w_length T hp hsk with ⟨g1, g2, g3⟩ | ⟨g1, g2⟩
        · rw [q_b2 g1, q_b2 g2, if_neg hn0, if_neg hn0]
          unfold X3_readLength
          rcases r_once (s := s) (b := 1) hs (by omega) (nI p) with ⟨o1, o2⟩ | ⟨o1, o2⟩
          · have e1 : s / 2 % 2 = 1 := by simpa using o1
            rw [q_b3 (show X7_once (nI 0) (-nI 1) (nI s) 1 (nI p) = _ from o2), e1, if_neg hn0, q_b5 (r_numberErr (k := 2) (by omega) (by omega) _ _ _ _ _ _), q_st (i := (5 : Int32)) _ 5 _ rfl (by omega) (by omega)]
            rw [q_b3 (show X3_fail (nI 0) (-nI 1) (-2) (nI p) = some (0, -2, nI p) from rfl), q_ck (Or.inl rfl), s_b7, q_ck (Or.inl rfl)]
            exact Or.inr ⟨2, p, _, _, _, _, _, _, _, _, _, _, _, _, _, _, _, _, _, _, _, _, _, _, by omega, by omega, rfl, rfl⟩
          · have e1 : s / 2 % 2 = 0 := by simpa using o1
            rw [q_b3 (show X7_once (nI 0) (-nI 1) (nI s) 1 (nI p) = _ from o2), e1, if_pos (show nI 0 = 0 from rfl)]
            rcases t_number T g3 (lo := 1) (hi := 20) (by omega) (by omega) num ns with ⟨x, p1, x1, x2, x3, x4, x5, x6⟩ | ⟨k, of, a, m', r, b, s', k1, k2, k3, k4⟩
            · rw [q_b5 (show X3_readNumber (nI 0) (-nI 1) (nI E) (nI (p + 6)) num bytes 1 20 = _ from x5), q_b5 (show X7_number (nI E) (nI (p + 6)) (nI 0) (-nI 1) ns buffer 1 20 = _ from x6), if_neg hn0, s_b7, q_ck (Or.inr rfl), q_st (i := (5 : Int32)) _ 5 _ rfl (by omega) (by omega)]
              refine Or.inl ⟨p1, pt, s + 2, HN, rc, sz, V, x, hx, hy, cells, holeX, holeY, codes, fa, upd d 5 (nI x), nI x, _, by omega, x4, ?_, rfl, N.len x1 x2, hpt, by omega, fun z => by rw [pk_un (by omega)]; exact h9 (by omega), fun z => ⟨(pk_un (by omega)).trans (hz z).1, (pk_un (by omega)).trans (hz z).2⟩⟩
              rw [show (s + 2) % 2 = s % 2 by omega, show (s + 2) / 2 % 2 = 1 by omega, show (s + 2) / 4 % 2 = s / 4 % 2 by omega]
              rfl
            · rw [q_b5 (show X3_readNumber (nI 0) (-nI 1) (nI E) (nI (p + 6)) num bytes 1 20 = _ from k3), q_b5 (show X7_number (nI E) (nI (p + 6)) (nI 0) (-nI 1) ns buffer 1 20 = _ from k4), if_pos (show nI 0 = 0 from rfl), s_b7, q_ck (Or.inl rfl), q_st (i := (5 : Int32)) _ 5 _ rfl (by omega) (by omega)]
              exact Or.inr ⟨k, of, _, _, _, _, _, _, _, _, _, _, _, _, _, _, _, _, _, _, _, _, _, _, k1, k2, rfl, rfl⟩
        · rw [q_b2 g1, q_b2 g2, if_pos (show nI 0 = 0 from rfl), if_pos (show nI 0 = 0 from rfl)]
          rcases t_word w_viewer T hp hsk with ⟨g1, g2, g3⟩ | ⟨g1, g2⟩
          · rw [q_b2 g1, q_b2 g2, if_neg hn0, if_neg hn0]
            rcases t_viewS T g3 hV (st := p) d7 fa num ns with ⟨p', num', ns', a, b, c, k1, k2, k3, k4, k5, k6, k7, k8⟩ | ⟨k, of, a, b, c, e, a', b', d', k1, k2, k3, k4⟩
            · rw [q_b7 k7, q_b5 k8, q_ck1]
              exact Or.inl ⟨p', pt, s, HN, rc, sz, V + 1, LL, hx, hy, cells, holeX, holeY, codes, _, _, num', ns', by omega, k6, rfl, rfl, N.view k1 k2 k3 k4, hpt, hs, fun z => (addD_o k4 (by omega) (by omega)).trans (h9 z), fun z => ⟨(addD_o k4 (by omega) (by omega)).trans (hz z).1, (addD_o k4 (by omega) (by omega)).trans (hz z).2⟩⟩
            · rw [q_b7 k3, q_b5 k4, q_ck0]
              exact Or.inr ⟨k, of, _, _, _, _, _, _, _, _, _, _, _, _, _, _, _, _, _, _, _, _, _, _, k1, k2, rfl, rfl⟩
          · rw [q_b2 g1, q_b2 g2, if_pos (show nI 0 = 0 from rfl), if_pos (show nI 0 = 0 from rfl)]
            rcases t_word w_price T hp hsk with ⟨g1, g2, g3⟩ | ⟨g1, g2⟩
            · rw [q_b2 g1, q_b2 g2, if_neg hn0, if_neg hn0]
              unfold X3_readPrice
              rcases r_once (s := s) (b := 2) hs (by omega) (nI p) with ⟨o1, o2⟩ | ⟨o1, o2⟩
              · have e1 : s / 4 % 2 = 1 := by simpa using o1
                rw [q_b3 (show X7_once (nI 0) (-nI 1) (nI s) 2 (nI p) = _ from o2), e1, if_neg hn0, q_st (i := (8 : Int32)) _ 8 _ rfl (by omega) (by omega), q_b6 (r_sumErr (k := 2) (by omega) (by omega) 5 _ _ _ _ _ _)]
                rw [q_b3 (show X3_fail (nI 0) (-nI 1) (-2) (nI p) = some (0, -2, nI p) from rfl), q_ck (Or.inl rfl), s_b8, q_ck (Or.inl rfl)]
                exact Or.inr ⟨2, p, _, _, _, _, _, _, _, _, _, _, _, _, _, _, _, _, _, _, _, _, _, _, by omega, by omega, rfl, rfl⟩
              · have e1 : s / 4 % 2 = 0 := by simpa using o1
                rw [q_b3 (show X7_once (nI 0) (-nI 1) (nI s) 2 (nI p) = _ from o2), e1, if_pos (show nI 0 = 0 from rfl), q_st (i := (8 : Int32)) _ 8 _ rfl (by omega) (by omega), q_b1 (show X2_clear (nI sz) = some (nI 0) from rfl), show Int32.toNatClampNeg 8 = 8 from by decide +kernel]
                have hP : PS E 0 (p + 5) 0 codes (upd d 8 (nI 1)) (upd d 8 (nI 1)) := ⟨g3, by omega, ⟨(pk_un (by omega)).trans (h9 e1), fun i hi => absurd hi (by omega), fun i hi => absurd hi (by omega)⟩, fun _ _ _ => rfl⟩
                rcases t_sum T (upd d 8 (nI 1)) 0 (p + 5) 0 codes (upd d 8 (nI 1)) num ns (by omega) hP (Nat.le_refl _) with ⟨p', sz', codes', d', num', ns', k1, k2, k3, ⟨k4, k5, k6, k7⟩, k8⟩ | ⟨k, of, a, b, c, e, a', b', c', e', k1, k2, k3, k4⟩
                · rw [q_b7 (show X3_readSum 6 (nI 0) (-nI 1) (nI E) (nI (p + 5)) num (nI 0) codes bytes 0 = _ from k2), q_b6 (show X7_readSum 6 (nI E) (nI (p + 5)) (nI 0) (-nI 1) ns (nI 0) buffer (upd d 8 1) = _ from k3), q_ck1, s_b8, q_ck1]
                  refine Or.inl ⟨p', pt, s + 4, HN, rc, sz', V, LL, hx, hy, cells, holeX, holeY, codes', fa, d', num', ns', by omega, k4, ?_, rfl, N.price k6 (by omega) (by rw [k8]; rfl) k7, hpt, by omega, fun z => absurd z (by omega), fun z => ⟨((k7 495 (by omega) (by omega)).trans (pk_un (by omega))).trans (hz z).1, ((k7 496 (by omega) (by omega)).trans (pk_un (by omega))).trans (hz z).2⟩⟩
                  rw [show (s + 4) % 2 = s % 2 by omega, show (s + 4) / 2 % 2 = s / 2 % 2 by omega, show (s + 4) / 4 % 2 = 1 by omega]
                  rfl
                · rw [q_b7 (show X3_readSum 6 (nI 0) (-nI 1) (nI E) (nI (p + 5)) num (nI 0) codes bytes 0 = _ from k3), q_b6 (show X7_readSum 6 (nI E) (nI (p + 5)) (nI 0) (-nI 1) ns (nI 0) buffer (upd d 8 1) = _ from k4), q_ck0, s_b8, q_ck0]
                  exact Or.inr ⟨k, of, _, _, _, _, _, _, _, _, _, _, _, _, _, _, _, _, _, _, _, _, _, _, k1, k2, rfl, rfl⟩
            · rw [q_b2 g1, q_b2 g2, if_pos (show nI 0 = 0 from rfl), if_pos (show nI 0 = 0 from rfl), q_b2 (show X7_report (nI 0) (-nI 1) (-2) (nI p) = some (-nI 2, nI p) from rfl)]
              rw [q_b3 (show X3_fail (nI 0) (-nI 1) (-2) (nI p) = some (0, -2, nI p) from rfl), q_ck (Or.inl rfl)]
              exact Or.inr ⟨2, p, _, _, _, _, _, _, _, _, _, _, _, _, _, _, _, _, _, _, _, _, _, _, by omega, by omega, rfl, rfl⟩
end STM
