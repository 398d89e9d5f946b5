/-! NUMBERS: the reference's reader on a good text: words, signs, numbers -/
section XR
variable {E : Nat} {bytes buffer : Nat → Int32} {tx : Nat → Nat}
theorem r_wordL {ws : List Int32} {len : Nat} {wn : Nat → Nat} (W : Word ws len wn) (T : Txt E bytes buffer tx) {p : Nat} (hp : p + len ≤ E) (hm : ∀ j, j < len → tx (p + j) = wn j) (he : chB E tx ltB (p + len) = false) : ∀ fuel i : Nat, len - i < fuel → i ≤ len → X7_takeWord_L16 ws (nI E) (nI 0) buffer fuel (nI i) (nI p) = some (nI 1, nI (p + len))
  | 0, i, h, _ => absurd h (Nat.not_lt_zero _)
  | fuel + 1, i, h, hi => by
    have hE := T.1
    obtain ⟨w1, w2, w3⟩ := id W
    rw [X7_takeWord_L16]
    by_cases e : i = len
    · subst e
      have hb := t_byteAt T (p := p + i) (by omega)
      have hc := (t_ch T (p + i)).2.2.2.1
      rw [he] at hc
      simp (disch := omega) only [s_lit, s_b0, s_b1, s_b2, s_b3, s_b4, s_b5, s_b6, s_x0, s_x0l, s_t1, s_nm, s_ckT, s_ld, s_st, s_clamp, nI_add, pk_mul, s_sub, s_nad, s_div, s_mod, s_rem2, s_le_t, s_le_f, s_lt_t, s_lt_f, s_eq_t, s_eq_f, s_n1, s_n2, s_n3, s_n4, s_n5, s_n6, s_n7, s_n8, s_n9, s_n10, s_n11, s_n12, s_us, s_un, s_uLs, s_uLn, ↓reduceIte, not_false_eq_true, not_true_eq_false, true_and, and_true, and_self, or_false, false_or, or_self, true_or, or_true, false_and, and_false, Int32.neg_neg, Nat.add_zero, Nat.zero_add, Nat.reduceSub, Nat.reduceAdd, Nat.reduceMul, Nat.reduceLeDiff, w1, hb, hc, b01, Bool.false_eq_true, X7_takeWord_J48]
    · have hi' : i < len := by omega
      have hlt : p + i < E := by omega
      obtain ⟨c1, c2, c3⟩ := w3 i hi'
      have hb := t_byteAt T (p := p + i) (by omega)
      rw [chA_in hlt, hm i hi'] at hb
      have g := r_wordL W T hp hm he fuel (i + 1) (by omega) (by omega)
      simp (disch := omega) only [s_lit, s_b0, s_b1, s_b2, s_b3, s_b4, s_b5, s_b6, s_x0, s_x0l, s_t1, s_nm, s_ckT, s_ld, s_st, s_clamp, nI_add, pk_mul, s_sub, s_nad, s_div, s_mod, s_rem2, s_le_t, s_le_f, s_lt_t, s_lt_f, s_eq_t, s_eq_f, s_n1, s_n2, s_n3, s_n4, s_n5, s_n6, s_n7, s_n8, s_n9, s_n10, s_n11, s_n12, s_us, s_un, s_uLs, s_uLn, ↓reduceIte, not_false_eq_true, not_true_eq_false, true_and, and_true, and_self, or_false, false_or, or_self, true_or, or_true, false_and, and_false, Int32.neg_neg, Nat.add_zero, Nat.zero_add, Nat.reduceSub, Nat.reduceAdd, Nat.reduceMul, Nat.reduceLeDiff, w1, c1, hb]
      exact g
theorem r_word {ws : List Int32} {len : Nat} {wn : Nat → Nat} (W : Word ws len wn) (T : Txt E bytes buffer tx) {p q : Nat} (hp : p ≤ E) (hs : sk E tx p = q) (hq : q + len ≤ E) (hm : ∀ j, j < len → tx (q + j) = wn j) (he : chB E tx ltB (q + len) = false) : X7_takeWord ws (nI E) (nI p) (nI 0) buffer = some (nI 1, nI (q + len)) := by
  have ha := t_ahead T hp
  rw [hs] at ha
  unfold X7_takeWord X7_isGood
  rw [if_pos (show nI 0 = (0 : Int32) from rfl), q_bn1, if_neg (show ¬ (1 : Int32) = 0 by decide), q_b2 ha]
  exact r_wordL W T hq hm he FU 0 (by have := W.2.1; unfold FU; omega) (Nat.zero_le _)
theorem r_noWordL {ws : List Int32} {len : Nat} {wn : Nat → Nat} (W : Word ws len wn) (T : Txt E bytes buffer tx) {p m : Nat} (hml : m < len) (hp : p + m ≤ E) (hm : ∀ j, j < m → tx (p + j) = wn j) (hne : p + m < E → tx (p + m) ≠ wn m) : ∀ fuel i : Nat, len - i < fuel → i ≤ m → X7_takeWord_L16 ws (nI E) (nI 0) buffer fuel (nI i) (nI p) = some (nI 0, nI p)
  | 0, i, h, _ => absurd h (Nat.not_lt_zero _)
  | fuel + 1, i, h, hi => by
    have hE := T.1
    obtain ⟨w1, w2, w3⟩ := id W
    obtain ⟨c1, c2, c3⟩ := w3 i (by omega)
    have hb := t_byteAt T (p := p + i) (by omega)
    rw [X7_takeWord_L16]
    by_cases e : i = m
    · subst e
      by_cases c : p + i < E
      · rw [chA_in c] at hb
        have ht := (T.2 (p + i) c).1
        have q := hne c
        simp (disch := omega) only [s_lit, s_b0, s_b1, s_b2, s_b3, s_b4, s_b5, s_b6, s_x0, s_x0l, s_t1, s_nm, s_ckT, s_ld, s_st, s_clamp, nI_add, pk_mul, s_sub, s_nad, s_div, s_mod, s_rem2, s_le_t, s_le_f, s_lt_t, s_lt_f, s_eq_t, s_eq_f, s_n1, s_n2, s_n3, s_n4, s_n5, s_n6, s_n7, s_n8, s_n9, s_n10, s_n11, s_n12, s_us, s_un, s_uLs, s_uLn, ↓reduceIte, not_false_eq_true, not_true_eq_false, true_and, and_true, and_self, or_false, false_or, or_self, true_or, or_true, false_and, and_false, Int32.neg_neg, Nat.add_zero, Nat.zero_add, Nat.reduceSub, Nat.reduceAdd, Nat.reduceMul, Nat.reduceLeDiff, w1, c1, hb, X7_takeWord_J48]
      · rw [chA_out c] at hb
        simp (disch := omega) only [s_lit, s_b0, s_b1, s_b2, s_b3, s_b4, s_b5, s_b6, s_x0, s_x0l, s_t1, s_nm, s_ckT, s_ld, s_st, s_clamp, nI_add, pk_mul, s_sub, s_nad, s_div, s_mod, s_rem2, s_le_t, s_le_f, s_lt_t, s_lt_f, s_eq_t, s_eq_f, s_n1, s_n2, s_n3, s_n4, s_n5, s_n6, s_n7, s_n8, s_n9, s_n10, s_n11, s_n12, s_us, s_un, s_uLs, s_uLn, ↓reduceIte, not_false_eq_true, not_true_eq_false, true_and, and_true, and_self, or_false, false_or, or_self, true_or, or_true, false_and, and_false, Int32.neg_neg, Nat.add_zero, Nat.zero_add, Nat.reduceSub, Nat.reduceAdd, Nat.reduceMul, Nat.reduceLeDiff, w1, c1, hb, X7_takeWord_J48]
    · have hlt : p + i < E := by omega
      rw [chA_in hlt, hm i (by omega)] at hb
      have g := r_noWordL W T hml hp hm hne fuel (i + 1) (by omega) (by omega)
      simp (disch := omega) only [s_lit, s_b0, s_b1, s_b2, s_b3, s_b4, s_b5, s_b6, s_x0, s_x0l, s_t1, s_nm, s_ckT, s_ld, s_st, s_clamp, nI_add, pk_mul, s_sub, s_nad, s_div, s_mod, s_rem2, s_le_t, s_le_f, s_lt_t, s_lt_f, s_eq_t, s_eq_f, s_n1, s_n2, s_n3, s_n4, s_n5, s_n6, s_n7, s_n8, s_n9, s_n10, s_n11, s_n12, s_us, s_un, s_uLs, s_uLn, ↓reduceIte, not_false_eq_true, not_true_eq_false, true_and, and_true, and_self, or_false, false_or, or_self, true_or, or_true, false_and, and_false, Int32.neg_neg, Nat.add_zero, Nat.zero_add, Nat.reduceSub, Nat.reduceAdd, Nat.reduceMul, Nat.reduceLeDiff, w1, c1, hb]
      exact g
theorem r_noWord {ws : List Int32} {len : Nat} {wn : Nat → Nat} (W : Word ws len wn) (T : Txt E bytes buffer tx) {p q m : Nat} (hp : p ≤ E) (hs : sk E tx p = q) (hml : m < len) (hq : q + m ≤ E) (hm : ∀ j, j < m → tx (q + j) = wn j) (hne : q + m < E → tx (q + m) ≠ wn m) : X7_takeWord ws (nI E) (nI p) (nI 0) buffer = some (nI 0, nI q) := by
  have ha := t_ahead T hp
  rw [hs] at ha
  unfold X7_takeWord X7_isGood
  rw [if_pos (show nI 0 = (0 : Int32) from rfl), q_bn1, if_neg (show ¬ (1 : Int32) = 0 by decide), q_b2 ha]
  exact r_noWordL W T hml hq hm hne FU 0 (by have := W.2.1; unfold FU; omega) (Nat.zero_le _)
theorem r_expect (T : Txt E bytes buffer tx) {p q c : Nat} (ea : Int32) (hp : p ≤ E) (hs : sk E tx p = q) (hq : q < E) (hc : tx q = c) : X7_expect (nI E) (nI p) (nI 0) ea buffer (nI c) = some (nI (q + 1), nI 0, ea) := by
  have ha := t_ahead T hp
  rw [hs, chA_in hq, hc] at ha
  unfold X7_expect X7_isGood
  rw [if_pos (show nI 0 = (0 : Int32) from rfl), q_bn1, if_neg (show ¬ (1 : Int32) = 0 by decide), q_b2 ha, if_pos rfl, s_nm, nI_1]
theorem r_digit (T : Txt E bytes buffer tx) {p V lo hi : Nat} (st ea : Int32) (fuel : Nat) (hp : p < E) (hd : 48 ≤ tx p ∧ tx p ≤ 57) (hV : V ≤ 99999) : X7_number_L41 (nI E) (nI 0) ea buffer (nI lo) (nI hi) (fuel + 1) (nI V) (nI p) st = X7_number_L41 (nI E) (nI 0) ea buffer (nI lo) (nI hi) fuel (nI (10 * V + (tx p - 48))) (nI (p + 1)) st := by
  have hE := T.1
  have hb := t_byteAt T (p := p) (by omega)
  have hc := (t_ch T p).2.1
  rw [chB_in hp, show dgB (tx p) = true from decide_eq_true hd] at hc
  rw [X7_number_L41, q_b1 hb, q_b1 hc]
  rw [chA_in hp] at hb
  have e1 : (((10 : Int32) * nI V) + nI (tx p)) - (48 : Int32) = nI (10 * V + (tx p - 48)) := by
    rw [show (10 : Int32) = nI 10 from rfl, show (48 : Int32) = nI 48 from rfl, pk_mul, nI_add, pk_sub (by omega)]
    congr 1; omega
  have e2 : X7_min (100000000 : Int32) (nI (10 * V + (tx p - 48))) = some (nI (10 * V + (tx p - 48))) := by
    have := r_min (a := 10 * V + (tx p - 48)) (b := 100000000) (by omega) (by omega)
    rw [Nat.min_eq_left (by omega)] at this
    exact this
  rw [if_neg (show ¬ b01 true = 0 by decide), q_b1 hb, e1, e2, q_bn1, s_nm, nI_1]
theorem r_numEnd (T : Txt E bytes buffer tx) {p V lo hi : Nat} (st ea : Int32) (fuel : Nat) (hp : p < 2 ^ 30) (hd : chB E tx dgB p = false) (h1 : lo ≤ V) (h2 : V ≤ hi) (hh : hi ≤ 9999) : X7_number_L41 (nI E) (nI 0) ea buffer (nI lo) (nI hi) (fuel + 1) (nI V) (nI p) st = some (nI V, nI p, nI 0, ea, st) := by
  have hb := t_byteAt T hp
  have hc := (t_ch T p).2.1
  rw [hd] at hc
  rw [X7_number_L41, q_b1 hb, q_b1 hc, if_pos (show b01 false = 0 by decide)]
  unfold X7_number_J109 X7_isGood X7_in
  simp (disch := omega) only [s_lit, s_b0, s_b1, s_b2, s_b3, s_b4, s_b5, s_b6, s_x0, s_x0l, s_t1, s_nm, s_ckT, s_ld, s_st, s_clamp, nI_add, pk_mul, s_sub, s_nad, s_div, s_mod, s_rem2, s_le_t, s_le_f, s_lt_t, s_lt_f, s_eq_t, s_eq_f, s_n1, s_n2, s_n3, s_n4, s_n5, s_n6, s_n7, s_n8, s_n9, s_n10, s_n11, s_n12, s_us, s_un, s_uLs, s_uLn, ↓reduceIte, not_false_eq_true, not_true_eq_false, true_and, and_true, and_self, or_false, false_or, or_self, true_or, or_true, false_and, and_false, Int32.neg_neg, Nat.add_zero, Nat.zero_add, Nat.reduceSub, Nat.reduceAdd, Nat.reduceMul, Nat.reduceLeDiff]
end XR
