/-! PHASE 2: numbers, kinds and signs of a setup text -/
theorem q_b6 {A0 A1 A2 A3 A4 A5 β : Type} {x : Option (A0 × A1 × A2 × A3 × A4 × A5)} {a0 : A0} {a1 : A1} {a2 : A2} {a3 : A3} {a4 : A4} {a5 : A5} {k : A0 → A1 → A2 → A3 → A4 → A5 → Option β} (h : x = some (a0, a1, a2, a3, a4, a5)) : bn6 x k = k a0 a1 a2 a3 a4 a5 := by rw [h]; rfl
section NUM
variable {E : Nat} {bytes buffer : Nat → Int32} {tx : Nat → Nat}
theorem chB_in {p : Nat} {f : Nat → Bool} (h : p < E) : chB E tx f p = f (tx p) := by unfold chB; rw [decide_eq_true h]; rfl
theorem chB_out {p : Nat} {f : Nat → Bool} (h : ¬ p < E) : chB E tx f p = false := by unfold chB; rw [decide_eq_false h]; rfl
theorem chB_lt {p : Nat} {f : Nat → Bool} (h : chB E tx f p = true) : p < E ∧ f (tx p) = true := by
  by_cases c : p < E
  · rw [chB_in c] at h; exact ⟨c, h⟩
  · rw [chB_out c] at h; cases h
theorem dgB_t {t : Nat} (h : dgB t = true) : 48 ≤ t ∧ t ≤ 57 := of_decide_eq_true h
theorem ltB_t {t : Nat} (h : ltB t = true) : 97 ≤ t ∧ t ≤ 122 := of_decide_eq_true h
/-- the end of a number: in its range or not -/
theorem t_numEnd {lo hi v V st p : Nat} (hl : lo ≤ 9999) (hh : hi ≤ 9999) (hv : v = min V 99999) (hV : V ≤ 100000000) (bytes buffer : Nat → Int32) (E : Nat) :
    (∃ v', lo ≤ v' ∧ v' ≤ hi ∧ X3_readNumber_J99 (nI 0) (-nI 1) (nI E) bytes (nI lo) (nI hi) (nI st) (nI p) (nI v) = some (nI 1, nI 0, -nI 1, nI p, nI v') ∧
      (bn1 (X7_in (nI V) (nI lo) (nI hi)) fun r9 => if r9 = 0 then bn2 (X7_report (nI 0) (-nI 1) (-3) (nI st)) fun o12 o13 => X7_number_J109 (nI E) buffer (nI lo) (nI hi) (nI V) (nI p) o12 o13 (nI st) else X7_number_J109 (nI E) buffer (nI lo) (nI hi) (nI V) (nI p) (nI 0) (-nI 1) (nI st)) = some (nI v', nI p, nI 0, -nI 1, nI st)) ∨
    (X3_readNumber_J99 (nI 0) (-nI 1) (nI E) bytes (nI lo) (nI hi) (nI st) (nI p) (nI v) = some (nI 0, -nI 3, nI st, nI p, nI v) ∧
      (bn1 (X7_in (nI V) (nI lo) (nI hi)) fun r9 => if r9 = 0 then bn2 (X7_report (nI 0) (-nI 1) (-3) (nI st)) fun o12 o13 => X7_number_J109 (nI E) buffer (nI lo) (nI hi) (nI V) (nI p) o12 o13 (nI st) else X7_number_J109 (nI E) buffer (nI lo) (nI hi) (nI V) (nI p) (nI 0) (-nI 1) (nI st)) = some (nI 0, nI p, -nI 3, nI st, nI st)) := by
  have hv2 : v ≤ 99999 := by rw [hv]; exact Nat.min_le_right _ _
  unfold X3_readNumber_J99
  by_cases a : V < lo
  · have e : v = V := by omega
    subst e
    refine Or.inr ⟨?_, ?_⟩
    · simp (disch := omega) only [s_lit, s_b0, s_b1, s_b2, s_b3, s_b4, s_b5, s_b6, s_x0, s_x0l, s_t1, s_nm, s_ckT, s_ld, s_st, s_clamp, nI_add, pk_mul, s_sub, s_nad, s_div, s_mod, s_rem2, s_le_t, s_le_f, s_lt_t, s_lt_f, s_eq_t, s_eq_f, s_n1, s_n2, s_n3, s_n4, s_n5, s_n6, s_n7, s_n8, s_n9, s_n10, s_n11, s_n12, s_us, s_un, s_uLs, s_uLn, ↓reduceIte, not_false_eq_true, not_true_eq_false, true_and, and_true, and_self, or_false, false_or, or_self, true_or, or_true, false_and, and_false, Int32.neg_neg, Nat.add_zero, Nat.zero_add, Nat.reduceSub, Nat.reduceAdd, Nat.reduceMul, Nat.reduceLeDiff, X3_readNumber_J115, X3_fail]
    · simp (disch := omega) only [s_lit, s_b0, s_b1, s_b2, s_b3, s_b4, s_b5, s_b6, s_x0, s_x0l, s_t1, s_nm, s_ckT, s_ld, s_st, s_clamp, nI_add, pk_mul, s_sub, s_nad, s_div, s_mod, s_rem2, s_le_t, s_le_f, s_lt_t, s_lt_f, s_eq_t, s_eq_f, s_n1, s_n2, s_n3, s_n4, s_n5, s_n6, s_n7, s_n8, s_n9, s_n10, s_n11, s_n12, s_us, s_un, s_uLs, s_uLn, ↓reduceIte, not_false_eq_true, not_true_eq_false, true_and, and_true, and_self, or_false, false_or, or_self, true_or, or_true, false_and, and_false, Int32.neg_neg, Nat.add_zero, Nat.zero_add, Nat.reduceSub, Nat.reduceAdd, Nat.reduceMul, Nat.reduceLeDiff, X7_in, X7_report, X7_number_J109, X7_isGood]
  · by_cases b : V ≤ hi
    · have e : v = V := by omega
      subst e
      refine Or.inl ⟨v, by omega, b, ?_, ?_⟩
      · simp (disch := omega) only [s_lit, s_b0, s_b1, s_b2, s_b3, s_b4, s_b5, s_b6, s_x0, s_x0l, s_t1, s_nm, s_ckT, s_ld, s_st, s_clamp, nI_add, pk_mul, s_sub, s_nad, s_div, s_mod, s_rem2, s_le_t, s_le_f, s_lt_t, s_lt_f, s_eq_t, s_eq_f, s_n1, s_n2, s_n3, s_n4, s_n5, s_n6, s_n7, s_n8, s_n9, s_n10, s_n11, s_n12, s_us, s_un, s_uLs, s_uLn, ↓reduceIte, not_false_eq_true, not_true_eq_false, true_and, and_true, and_self, or_false, false_or, or_self, true_or, or_true, false_and, and_false, Int32.neg_neg, Nat.add_zero, Nat.zero_add, Nat.reduceSub, Nat.reduceAdd, Nat.reduceMul, Nat.reduceLeDiff, X3_readNumber_J125]
      · simp (disch := omega) only [s_lit, s_b0, s_b1, s_b2, s_b3, s_b4, s_b5, s_b6, s_x0, s_x0l, s_t1, s_nm, s_ckT, s_ld, s_st, s_clamp, nI_add, pk_mul, s_sub, s_nad, s_div, s_mod, s_rem2, s_le_t, s_le_f, s_lt_t, s_lt_f, s_eq_t, s_eq_f, s_n1, s_n2, s_n3, s_n4, s_n5, s_n6, s_n7, s_n8, s_n9, s_n10, s_n11, s_n12, s_us, s_un, s_uLs, s_uLn, ↓reduceIte, not_false_eq_true, not_true_eq_false, true_and, and_true, and_self, or_false, false_or, or_self, true_or, or_true, false_and, and_false, Int32.neg_neg, Nat.add_zero, Nat.zero_add, Nat.reduceSub, Nat.reduceAdd, Nat.reduceMul, Nat.reduceLeDiff, X7_in, X7_number_J109, X7_isGood]
    · have e : hi < v := by omega
      refine Or.inr ⟨?_, ?_⟩
      · simp (disch := omega) only [s_lit, s_b0, s_b1, s_b2, s_b3, s_b4, s_b5, s_b6, s_x0, s_x0l, s_t1, s_nm, s_ckT, s_ld, s_st, s_clamp, nI_add, pk_mul, s_sub, s_nad, s_div, s_mod, s_rem2, s_le_t, s_le_f, s_lt_t, s_lt_f, s_eq_t, s_eq_f, s_n1, s_n2, s_n3, s_n4, s_n5, s_n6, s_n7, s_n8, s_n9, s_n10, s_n11, s_n12, s_us, s_un, s_uLs, s_uLn, ↓reduceIte, not_false_eq_true, not_true_eq_false, true_and, and_true, and_self, or_false, false_or, or_self, true_or, or_true, false_and, and_false, Int32.neg_neg, Nat.add_zero, Nat.zero_add, Nat.reduceSub, Nat.reduceAdd, Nat.reduceMul, Nat.reduceLeDiff, X3_readNumber_J115, X3_fail]
      · simp (disch := omega) only [s_lit, s_b0, s_b1, s_b2, s_b3, s_b4, s_b5, s_b6, s_x0, s_x0l, s_t1, s_nm, s_ckT, s_ld, s_st, s_clamp, nI_add, pk_mul, s_sub, s_nad, s_div, s_mod, s_rem2, s_le_t, s_le_f, s_lt_t, s_lt_f, s_eq_t, s_eq_f, s_n1, s_n2, s_n3, s_n4, s_n5, s_n6, s_n7, s_n8, s_n9, s_n10, s_n11, s_n12, s_us, s_un, s_uLs, s_uLn, ↓reduceIte, not_false_eq_true, not_true_eq_false, true_and, and_true, and_self, or_false, false_or, or_self, true_or, or_true, false_and, and_false, Int32.neg_neg, Nat.add_zero, Nat.zero_add, Nat.reduceSub, Nat.reduceAdd, Nat.reduceMul, Nat.reduceLeDiff, X7_in, X7_report, X7_number_J109, X7_isGood]
theorem t_numL (T : Txt E bytes buffer tx) {lo hi st : Nat} (hl : lo ≤ 9999) (hh : hi ≤ 9999) : ∀ fuel p v V : Nat, E - p < fuel → p ≤ E → v = min V 99999 → V ≤ 100000000 →
    ∃ p', p ≤ p' ∧ p' ≤ E ∧ (chB E tx dgB p = true → p < p') ∧
      ((∃ v', lo ≤ v' ∧ v' ≤ hi ∧ X3_readNumber_L31 (nI 0) (-nI 1) (nI E) bytes (nI lo) (nI hi) fuel (nI st) (nI p) (nI v) = some (nI 1, nI 0, -nI 1, nI p', nI v') ∧ X7_number_L41 (nI E) (nI 0) (-nI 1) buffer (nI lo) (nI hi) fuel (nI V) (nI p) (nI st) = some (nI v', nI p', nI 0, -nI 1, nI st)) ∨
       ∃ m, X3_readNumber_L31 (nI 0) (-nI 1) (nI E) bytes (nI lo) (nI hi) fuel (nI st) (nI p) (nI v) = some (nI 0, -nI 3, nI st, nI p', m) ∧ X7_number_L41 (nI E) (nI 0) (-nI 1) buffer (nI lo) (nI hi) fuel (nI V) (nI p) (nI st) = some (nI 0, nI p', -nI 3, nI st, nI st))
  | 0, p, _, _, h, _, _, _ => absurd h (Nat.not_lt_zero _)
  | fuel + 1, p, v, V, h, hp, hv, hV => by
    have hE := T.1
    have hb := t_byteAt T (p := p) (by omega)
    have hc := (t_ch T p).2.1
    rw [X3_readNumber_L31, X7_number_L41, q_b1 hb, q_b1 hc]
    cases hd : chB E tx dgB p with
    | false =>
      refine ⟨p, Nat.le_refl _, hp, (fun q => by cases q), ?_⟩
      have hcl : ∀ z, X3_readNumber_J99 (nI 0) (-nI 1) (nI E) bytes (nI lo) (nI hi) (nI st) (nI p) (nI v) = z → (if nI E ≤ nI p then X3_readNumber_J99 (nI 0) (-nI 1) (nI E) bytes (nI lo) (nI hi) (nI st) (nI p) (nI v) else ld bytes 800 (nI p) fun v10 => bn1 (X3_isDigit v10) fun r11 => if r11 = 0 then X3_readNumber_J99 (nI 0) (-nI 1) (nI E) bytes (nI lo) (nI hi) (nI st) (nI p) (nI v) else ld bytes 800 (nI p) fun v15 => nm (if (99999 : Int32) < ((((10 : Int32) * nI v) + v15) - (48 : Int32)) then (99999 : Int32) else ((((10 : Int32) * nI v) + v15) - (48 : Int32))) fun v16 => nm (nI p + (1 : Int32)) fun v17 => X3_readNumber_L31 (nI 0) (-nI 1) (nI E) bytes (nI lo) (nI hi) fuel (nI st) v17 v16) = z := by
        intro z hz
        by_cases c : p < E
        · have hdb := (t_byte T c).1
          rw [chB_in c] at hd
          rw [hd] at hdb
          rw [if_neg (nI_ge c (by omega)), q_ld bytes p _ rfl (by omega) (by omega), q_b1 hdb]
          exact (if_pos rfl).trans hz
        · exact (if_pos (nI_le (by omega) (by omega))).trans hz
      rw [show (if b01 false = 0 then bn1 (X7_in (nI V) (nI lo) (nI hi)) fun r9 => if r9 = 0 then bn2 (X7_report (nI 0) (-nI 1) (-3) (nI st)) fun o12 o13 => X7_number_J109 (nI E) buffer (nI lo) (nI hi) (nI V) (nI p) o12 o13 (nI st) else X7_number_J109 (nI E) buffer (nI lo) (nI hi) (nI V) (nI p) (nI 0) (-nI 1) (nI st) else bn1 (X7_byteAt (nI E) buffer (nI p)) fun r15 => bn1 (X7_min (100000000 : Int32) ((((10 : Int32) * nI V) + r15) - (48 : Int32))) fun r17 => nm (nI p + (1 : Int32)) fun v19 => X7_number_L41 (nI E) (nI 0) (-nI 1) buffer (nI lo) (nI hi) fuel r17 v19 (nI st)) = _ from if_pos rfl]
      rcases t_numEnd (lo := lo) (hi := hi) (st := st) (p := p) hl hh hv hV bytes buffer E with ⟨v', g1, g2, g3, g4⟩ | ⟨g3, g4⟩
      · exact Or.inl ⟨v', g1, g2, hcl _ g3, g4⟩
      · exact Or.inr ⟨nI v, hcl _ g3, g4⟩
    | true =>
      obtain ⟨c, hdt⟩ := chB_lt hd
      obtain ⟨d1, d2⟩ := dgB_t hdt
      have hdb := (t_byte T c).1
      rw [hdt] at hdb
      have hcl : bytes p = nI (tx p) := (T.2 p c).2.2.2.1 (by omega)
      rw [chA_in c] at hb
      rw [hcl] at hdb
      have hv2 : v ≤ 99999 := by rw [hv]; exact Nat.min_le_right _ _
      obtain ⟨p', k1, k2, k3, k4⟩ := t_numL T (lo := lo) (hi := hi) (st := st) hl hh fuel (p + 1) (min 99999 (10 * v + tx p - 48)) (min (10 * V + tx p - 48) 100000000) (by omega) (by omega) (by omega) (Nat.min_le_right _ _)
      refine ⟨p', by omega, k2, fun _ => by omega, ?_⟩
      have g1 : ∀ z, X3_readNumber_L31 (nI 0) (-nI 1) (nI E) bytes (nI lo) (nI hi) fuel (nI st) (nI (p + 1)) (nI (min 99999 (10 * v + tx p - 48))) = z → (if nI E ≤ nI p then X3_readNumber_J99 (nI 0) (-nI 1) (nI E) bytes (nI lo) (nI hi) (nI st) (nI p) (nI v) else ld bytes 800 (nI p) fun v10 => bn1 (X3_isDigit v10) fun r11 => if r11 = 0 then X3_readNumber_J99 (nI 0) (-nI 1) (nI E) bytes (nI lo) (nI hi) (nI st) (nI p) (nI v) else ld bytes 800 (nI p) fun v15 => nm (if (99999 : Int32) < ((((10 : Int32) * nI v) + v15) - (48 : Int32)) then (99999 : Int32) else ((((10 : Int32) * nI v) + v15) - (48 : Int32))) fun v16 => nm (nI p + (1 : Int32)) fun v17 => X3_readNumber_L31 (nI 0) (-nI 1) (nI E) bytes (nI lo) (nI hi) fuel (nI st) v17 v16) = z := by
        intro z hz
        simp (disch := omega) only [s_lit, s_b0, s_b1, s_b2, s_b3, s_b4, s_b5, s_b6, s_x0, s_x0l, s_t1, s_nm, s_ckT, s_ld, s_st, s_clamp, nI_add, pk_mul, s_sub, s_nad, s_div, s_mod, s_rem2, s_le_t, s_le_f, s_lt_t, s_lt_f, s_eq_t, s_eq_f, s_n1, s_n2, s_n3, s_n4, s_n5, s_n6, s_n7, s_n8, s_n9, s_n10, s_n11, s_n12, s_us, s_un, s_uLs, s_uLn, ↓reduceIte, not_false_eq_true, not_true_eq_false, true_and, and_true, and_self, or_false, false_or, or_self, true_or, or_true, false_and, and_false, Int32.neg_neg, Nat.add_zero, Nat.zero_add, Nat.reduceSub, Nat.reduceAdd, Nat.reduceMul, Nat.reduceLeDiff, hdb, hcl, b01, q_min]
        exact hz
      have g2 : ∀ z, X7_number_L41 (nI E) (nI 0) (-nI 1) buffer (nI lo) (nI hi) fuel (nI (min (10 * V + tx p - 48) 100000000)) (nI (p + 1)) (nI st) = z → (if b01 true = 0 then bn1 (X7_in (nI V) (nI lo) (nI hi)) fun r9 => if r9 = 0 then bn2 (X7_report (nI 0) (-nI 1) (-3) (nI st)) fun o12 o13 => X7_number_J109 (nI E) buffer (nI lo) (nI hi) (nI V) (nI p) o12 o13 (nI st) else X7_number_J109 (nI E) buffer (nI lo) (nI hi) (nI V) (nI p) (nI 0) (-nI 1) (nI st) else bn1 (X7_byteAt (nI E) buffer (nI p)) fun r15 => bn1 (X7_min (100000000 : Int32) ((((10 : Int32) * nI V) + r15) - (48 : Int32))) fun r17 => nm (nI p + (1 : Int32)) fun v19 => X7_number_L41 (nI E) (nI 0) (-nI 1) buffer (nI lo) (nI hi) fuel r17 v19 (nI st)) = z := by
        intro z hz
        simp (disch := omega) only [s_lit, s_b0, s_b1, s_b2, s_b3, s_b4, s_b5, s_b6, s_x0, s_x0l, s_t1, s_nm, s_ckT, s_ld, s_st, s_clamp, nI_add, pk_mul, s_sub, s_nad, s_div, s_mod, s_rem2, s_le_t, s_le_f, s_lt_t, s_lt_f, s_eq_t, s_eq_f, s_n1, s_n2, s_n3, s_n4, s_n5, s_n6, s_n7, s_n8, s_n9, s_n10, s_n11, s_n12, s_us, s_un, s_uLs, s_uLn, ↓reduceIte, not_false_eq_true, not_true_eq_false, true_and, and_true, and_self, or_false, false_or, or_self, true_or, or_true, false_and, and_false, Int32.neg_neg, Nat.add_zero, Nat.zero_add, Nat.reduceSub, Nat.reduceAdd, Nat.reduceMul, Nat.reduceLeDiff, hb, b01, r_min]
        exact hz
      rcases k4 with ⟨v', q1, q2, q3, q4⟩ | ⟨m, q3, q4⟩
      · exact Or.inl ⟨v', q1, q2, g1 _ q3, g2 _ q4⟩
      · exact Or.inr ⟨m, g1 _ q3, g2 _ q4⟩
/-- a number -/
theorem t_number (T : Txt E bytes buffer tx) {p lo hi : Nat} (hp : p ≤ E) (hl : lo ≤ 9999) (hh : hi ≤ 9999) (num ns : Int32) :
    (∃ v p', lo ≤ v ∧ v ≤ hi ∧ p < p' ∧ p' ≤ E ∧ X3_readNumber (nI 0) (-nI 1) (nI E) (nI p) num bytes (nI lo) (nI hi) = some (nI 1, nI 0, -nI 1, nI p', nI v) ∧ X7_number (nI E) (nI p) (nI 0) (-nI 1) ns buffer (nI lo) (nI hi) = some (nI v, nI p', nI 0, -nI 1, nI (sk E tx p))) ∨
    ∃ k of a m r b s, 2 ≤ k ∧ k ≤ 6 ∧ X3_readNumber (nI 0) (-nI 1) (nI E) (nI p) num bytes (nI lo) (nI hi) = some (nI 0, -nI k, nI of, a, m) ∧ X7_number (nI E) (nI p) (nI 0) (-nI 1) ns buffer (nI lo) (nI hi) = some (r, b, -nI k, nI of, s) := by
  have hE := T.1
  have ha := t_ahead T hp
  have hk := t_peek T hp
  have h1 := sk_ge E tx p
  have h2 := sk_le (tx := tx) hp
  obtain ⟨c1, c2, -⟩ := t_ch T (sk E tx p)
  have hg : X7_isGood (nI 0) = some (nI 1) := rfl
  have hn0 : ¬ nI 1 = 0 := by decide +kernel
  unfold X3_readNumber X7_number
  rw [q_b2 hk, q_b1 c1, q_b1 hg, if_neg hn0, q_b2 ha, q_b1 c2]
  cases hd : chB E tx dgB (sk E tx p) with
  | false =>
    refine Or.inr ⟨2, sk E tx p, nI (sk E tx p), num, nI 0, nI (sk E tx p), ns, by omega, by omega, ?_, ?_⟩
    · simp (disch := omega) only [s_lit, s_b0, s_b1, s_b2, s_b3, s_b4, s_b5, s_b6, s_x0, s_x0l, s_t1, s_nm, s_ckT, s_ld, s_st, s_clamp, nI_add, pk_mul, s_sub, s_nad, s_div, s_mod, s_rem2, s_le_t, s_le_f, s_lt_t, s_lt_f, s_eq_t, s_eq_f, s_n1, s_n2, s_n3, s_n4, s_n5, s_n6, s_n7, s_n8, s_n9, s_n10, s_n11, s_n12, s_us, s_un, s_uLs, s_uLn, ↓reduceIte, not_false_eq_true, not_true_eq_false, true_and, and_true, and_self, or_false, false_or, or_self, true_or, or_true, false_and, and_false, Int32.neg_neg, Nat.add_zero, Nat.zero_add, Nat.reduceSub, Nat.reduceAdd, Nat.reduceMul, Nat.reduceLeDiff, b01, Bool.false_eq_true, X3_fail]
    · simp (disch := omega) only [s_lit, s_b0, s_b1, s_b2, s_b3, s_b4, s_b5, s_b6, s_x0, s_x0l, s_t1, s_nm, s_ckT, s_ld, s_st, s_clamp, nI_add, pk_mul, s_sub, s_nad, s_div, s_mod, s_rem2, s_le_t, s_le_f, s_lt_t, s_lt_f, s_eq_t, s_eq_f, s_n1, s_n2, s_n3, s_n4, s_n5, s_n6, s_n7, s_n8, s_n9, s_n10, s_n11, s_n12, s_us, s_un, s_uLs, s_uLn, ↓reduceIte, not_false_eq_true, not_true_eq_false, true_and, and_true, and_self, or_false, false_or, or_self, true_or, or_true, false_and, and_false, Int32.neg_neg, Nat.add_zero, Nat.zero_add, Nat.reduceSub, Nat.reduceAdd, Nat.reduceMul, Nat.reduceLeDiff, b01, Bool.false_eq_true, X7_report]
  | true =>
    obtain ⟨p', k1, k2, k3, k4⟩ := t_numL T (lo := lo) (hi := hi) (st := sk E tx p) hl hh FU (sk E tx p) 0 0 (by unfold FU; omega) h2 rfl (by omega)
    have k3 := k3 hd
    have e1 : ¬ b01 true = 0 := hn0
    rw [if_neg e1, if_neg e1]
    rcases k4 with ⟨v', q1, q2, q3, q4⟩ | ⟨m, q3, q4⟩
    · exact Or.inl ⟨v', p', q1, q2, by omega, k2, q3, q4⟩
    · exact Or.inr ⟨3, sk E tx p, _, _, _, _, _, by omega, by omega, q3, q4⟩
/-- a sign -/
theorem t_sign (T : Txt E bytes buffer tx) {p c : Nat} (hp : p ≤ E) (hc : c < 256) :
    (sk E tx p < E ∧ X3_readSign (nI 0) (-nI 1) (nI E) (nI p) bytes (nI c) = some (nI 1, nI 0, -nI 1, nI (sk E tx p + 1)) ∧ X7_expect (nI E) (nI p) (nI 0) (-nI 1) buffer (nI c) = some (nI (sk E tx p + 1), nI 0, -nI 1)) ∨
    (X3_readSign (nI 0) (-nI 1) (nI E) (nI p) bytes (nI c) = some (nI 0, -nI 2, nI (sk E tx p), nI (sk E tx p)) ∧ X7_expect (nI E) (nI p) (nI 0) (-nI 1) buffer (nI c) = some (nI (sk E tx p), -nI 2, nI (sk E tx p))) := by
  have hE := T.1
  have ha := t_ahead T hp
  have hk := t_peek T hp
  have hg : X7_isGood (nI 0) = some (nI 1) := rfl
  unfold X3_readSign X7_expect
  by_cases q : chA E tx (sk E tx p) = nI c
  · have hlt : sk E tx p < E := by
      apply Classical.byContradiction
      intro z
      rw [chA_out z] at q
      simp (disch := omega) only [s_n6] at q
    rw [q] at ha hk
    exact Or.inl ⟨hlt, by simp (disch := omega) only [s_lit, s_b0, s_b1, s_b2, s_b3, s_b4, s_b5, s_b6, s_x0, s_x0l, s_t1, s_nm, s_ckT, s_ld, s_st, s_clamp, nI_add, pk_mul, s_sub, s_nad, s_div, s_mod, s_rem2, s_le_t, s_le_f, s_lt_t, s_lt_f, s_eq_t, s_eq_f, s_n1, s_n2, s_n3, s_n4, s_n5, s_n6, s_n7, s_n8, s_n9, s_n10, s_n11, s_n12, s_us, s_un, s_uLs, s_uLn, ↓reduceIte, not_false_eq_true, not_true_eq_false, true_and, and_true, and_self, or_false, false_or, or_self, true_or, or_true, false_and, and_false, Int32.neg_neg, Nat.add_zero, Nat.zero_add, Nat.reduceSub, Nat.reduceAdd, Nat.reduceMul, Nat.reduceLeDiff, hk], by simp (disch := omega) only [s_lit, s_b0, s_b1, s_b2, s_b3, s_b4, s_b5, s_b6, s_x0, s_x0l, s_t1, s_nm, s_ckT, s_ld, s_st, s_clamp, nI_add, pk_mul, s_sub, s_nad, s_div, s_mod, s_rem2, s_le_t, s_le_f, s_lt_t, s_lt_f, s_eq_t, s_eq_f, s_n1, s_n2, s_n3, s_n4, s_n5, s_n6, s_n7, s_n8, s_n9, s_n10, s_n11, s_n12, s_us, s_un, s_uLs, s_uLn, ↓reduceIte, not_false_eq_true, not_true_eq_false, true_and, and_true, and_self, or_false, false_or, or_self, true_or, or_true, false_and, and_false, Int32.neg_neg, Nat.add_zero, Nat.zero_add, Nat.reduceSub, Nat.reduceAdd, Nat.reduceMul, Nat.reduceLeDiff, hg, ha]⟩
  · exact Or.inr ⟨by simp (disch := omega) only [s_lit, s_b0, s_b1, s_b2, s_b3, s_b4, s_b5, s_b6, s_x0, s_x0l, s_t1, s_nm, s_ckT, s_ld, s_st, s_clamp, nI_add, pk_mul, s_sub, s_nad, s_div, s_mod, s_rem2, s_le_t, s_le_f, s_lt_t, s_lt_f, s_eq_t, s_eq_f, s_n1, s_n2, s_n3, s_n4, s_n5, s_n6, s_n7, s_n8, s_n9, s_n10, s_n11, s_n12, s_us, s_un, s_uLs, s_uLn, ↓reduceIte, not_false_eq_true, not_true_eq_false, true_and, and_true, and_self, or_false, false_or, or_self, true_or, or_true, false_and, and_false, Int32.neg_neg, Nat.add_zero, Nat.zero_add, Nat.reduceSub, Nat.reduceAdd, Nat.reduceMul, Nat.reduceLeDiff, hk, q, X3_fail], by simp (disch := omega) only [s_lit, s_b0, s_b1, s_b2, s_b3, s_b4, s_b5, s_b6, s_x0, s_x0l, s_t1, s_nm, s_ckT, s_ld, s_st, s_clamp, nI_add, pk_mul, s_sub, s_nad, s_div, s_mod, s_rem2, s_le_t, s_le_f, s_lt_t, s_lt_f, s_eq_t, s_eq_f, s_n1, s_n2, s_n3, s_n4, s_n5, s_n6, s_n7, s_n8, s_n9, s_n10, s_n11, s_n12, s_us, s_un, s_uLs, s_uLn, ↓reduceIte, not_false_eq_true, not_true_eq_false, true_and, and_true, and_self, or_false, false_or, or_self, true_or, or_true, false_and, and_false, Int32.neg_neg, Nat.add_zero, Nat.zero_add, Nat.reduceSub, Nat.reduceAdd, Nat.reduceMul, Nat.reduceLeDiff, hg, ha, q, X7_report]⟩
/-- one of two signs, or none -/
theorem t_either (T : Txt E bytes buffer tx) {p a b : Nat} (hp : p ≤ E) (ha : a < 256) (hb : b < 256) (h0 : 0 < a) (h1 : 0 < b) :
    (∃ c, (c = a ∨ c = b) ∧ sk E tx p < E ∧ chA E tx (sk E tx p) = nI c ∧ X3_takesEither (nI E) (nI p) bytes (nI a) (nI b) = some (nI c, nI (sk E tx p + 1))) ∨
    (¬ chA E tx (sk E tx p) = nI a ∧ ¬ chA E tx (sk E tx p) = nI b ∧ X3_takesEither (nI E) (nI p) bytes (nI a) (nI b) = some (nI 0, nI (sk E tx p))) := by
  have hk := t_peek T hp
  have hlt : ∀ c : Nat, c < 256 → chA E tx (sk E tx p) = nI c → sk E tx p < E := fun c hc q => by
    apply Classical.byContradiction
    intro z
    rw [chA_out z] at q
    simp (disch := omega) only [s_n6] at q
  unfold X3_takesEither
  by_cases q : chA E tx (sk E tx p) = nI a
  · have h := hlt a ha q
    rw [q] at hk
    exact Or.inl ⟨a, Or.inl rfl, h, q, by simp (disch := omega) only [s_lit, s_b0, s_b1, s_b2, s_b3, s_b4, s_b5, s_b6, s_x0, s_x0l, s_t1, s_nm, s_ckT, s_ld, s_st, s_clamp, nI_add, pk_mul, s_sub, s_nad, s_div, s_mod, s_rem2, s_le_t, s_le_f, s_lt_t, s_lt_f, s_eq_t, s_eq_f, s_n1, s_n2, s_n3, s_n4, s_n5, s_n6, s_n7, s_n8, s_n9, s_n10, s_n11, s_n12, s_us, s_un, s_uLs, s_uLn, ↓reduceIte, not_false_eq_true, not_true_eq_false, true_and, and_true, and_self, or_false, false_or, or_self, true_or, or_true, false_and, and_false, Int32.neg_neg, Nat.add_zero, Nat.zero_add, Nat.reduceSub, Nat.reduceAdd, Nat.reduceMul, Nat.reduceLeDiff, hk, X3_takesEither_J17]⟩
  · by_cases r : chA E tx (sk E tx p) = nI b
    · have h := hlt b hb r
      refine Or.inl ⟨b, Or.inr rfl, h, r, ?_⟩
      rw [r] at hk q
      simp (disch := omega) only [s_lit, s_b0, s_b1, s_b2, s_b3, s_b4, s_b5, s_b6, s_x0, s_x0l, s_t1, s_nm, s_ckT, s_ld, s_st, s_clamp, nI_add, pk_mul, s_sub, s_nad, s_div, s_mod, s_rem2, s_le_t, s_le_f, s_lt_t, s_lt_f, s_eq_t, s_eq_f, s_n1, s_n2, s_n3, s_n4, s_n5, s_n6, s_n7, s_n8, s_n9, s_n10, s_n11, s_n12, s_us, s_un, s_uLs, s_uLn, ↓reduceIte, not_false_eq_true, not_true_eq_false, true_and, and_true, and_self, or_false, false_or, or_self, true_or, or_true, false_and, and_false, Int32.neg_neg, Nat.add_zero, Nat.zero_add, Nat.reduceSub, Nat.reduceAdd, Nat.reduceMul, Nat.reduceLeDiff, hk, q, X3_takesEither_J17]
    · exact Or.inr ⟨q, r, by simp (disch := omega) only [s_lit, s_b0, s_b1, s_b2, s_b3, s_b4, s_b5, s_b6, s_x0, s_x0l, s_t1, s_nm, s_ckT, s_ld, s_st, s_clamp, nI_add, pk_mul, s_sub, s_nad, s_div, s_mod, s_rem2, s_le_t, s_le_f, s_lt_t, s_lt_f, s_eq_t, s_eq_f, s_n1, s_n2, s_n3, s_n4, s_n5, s_n6, s_n7, s_n8, s_n9, s_n10, s_n11, s_n12, s_us, s_un, s_uLs, s_uLn, ↓reduceIte, not_false_eq_true, not_true_eq_false, true_and, and_true, and_self, or_false, false_or, or_self, true_or, or_true, false_and, and_false, Int32.neg_neg, Nat.add_zero, Nat.zero_add, Nat.reduceSub, Nat.reduceAdd, Nat.reduceMul, Nat.reduceLeDiff, hk, q, r]⟩
/-- the letters behind: the reference counts them -/
theorem t_kindL (T : Txt E bytes buffer tx) (l1 o : Int32) {st : Nat} : ∀ fuel i : Nat, E - (st + i) < fuel → st + i ≤ E → 1 ≤ i →
    ∃ m, i ≤ m ∧ (chB E tx ltB (st + i) = false → m = i) ∧ (chB E tx ltB (st + i) = true → i < m) ∧ st + m ≤ E ∧ X7_kind_L21 (nI E) (nI 0) (-nI 1) buffer fuel l1 (nI i) (nI st) o = X7_kind_J55 (nI E) buffer l1 (nI m) (nI st) o (nI 0) (-nI 1)
  | 0, i, h, _, _ => absurd h (Nat.not_lt_zero _)
  | fuel + 1, i, h, hi, h1 => by
    have hE := T.1
    have hb := t_byteAt T (p := st + i) (by omega)
    have hc := (t_ch T (st + i)).2.2.2.1
    rw [X7_kind_L21]
    cases hl : chB E tx ltB (st + i) with
    | false =>
      rw [hl] at hc
      exact ⟨i, Nat.le_refl _, fun _ => rfl, (fun q => by cases q), hi, by simp (disch := omega) only [s_lit, s_b0, s_b1, s_b2, s_b3, s_b4, s_b5, s_b6, s_x0, s_x0l, s_t1, s_nm, s_ckT, s_ld, s_st, s_clamp, nI_add, pk_mul, s_sub, s_nad, s_div, s_mod, s_rem2, s_le_t, s_le_f, s_lt_t, s_lt_f, s_eq_t, s_eq_f, s_n1, s_n2, s_n3, s_n4, s_n5, s_n6, s_n7, s_n8, s_n9, s_n10, s_n11, s_n12, s_us, s_un, s_uLs, s_uLn, ↓reduceIte, not_false_eq_true, not_true_eq_false, true_and, and_true, and_self, or_false, false_or, or_self, true_or, or_true, false_and, and_false, Int32.neg_neg, Nat.add_zero, Nat.zero_add, Nat.reduceSub, Nat.reduceAdd, Nat.reduceMul, Nat.reduceLeDiff, hb, hc, b01, Bool.false_eq_true]⟩
    | true =>
      rw [hl] at hc
      obtain ⟨c, -⟩ := chB_lt hl
      obtain ⟨m, g1, -, -, g4, g5⟩ := t_kindL T l1 o (st := st) fuel (i + 1) (by omega) (by omega) (by omega)
      refine ⟨m, by omega, (fun q => by cases q), fun _ => by omega, g4, ?_⟩
      simp (disch := omega) only [s_lit, s_b0, s_b1, s_b2, s_b3, s_b4, s_b5, s_b6, s_x0, s_x0l, s_t1, s_nm, s_ckT, s_ld, s_st, s_clamp, nI_add, pk_mul, s_sub, s_nad, s_div, s_mod, s_rem2, s_le_t, s_le_f, s_lt_t, s_lt_f, s_eq_t, s_eq_f, s_n1, s_n2, s_n3, s_n4, s_n5, s_n6, s_n7, s_n8, s_n9, s_n10, s_n11, s_n12, s_us, s_un, s_uLs, s_uLn, ↓reduceIte, not_false_eq_true, not_true_eq_false, true_and, and_true, and_self, or_false, false_or, or_self, true_or, or_true, false_and, and_false, Int32.neg_neg, Nat.add_zero, Nat.zero_add, Nat.reduceSub, Nat.reduceAdd, Nat.reduceMul, Nat.reduceLeDiff, hb, hc, b01]
      exact g5
/-- a kind of one letter -/
theorem t_kind (T : Txt E bytes buffer tx) {p : Nat} (hp : p ≤ E) (num : Int32) :
    (∃ v p', v < 26 ∧ p < p' ∧ p' ≤ E ∧ X3_readKind (nI 0) (-nI 1) (nI E) (nI p) num bytes = some (nI 1, nI 0, -nI 1, nI p', nI v) ∧ X7_kind (nI E) (nI p) (nI 0) (-nI 1) buffer = some (nI v, nI p', nI 0, -nI 1)) ∨
    ∃ k of a m r b, 2 ≤ k ∧ k ≤ 6 ∧ X3_readKind (nI 0) (-nI 1) (nI E) (nI p) num bytes = some (nI 0, -nI k, nI of, a, m) ∧ X7_kind (nI E) (nI p) (nI 0) (-nI 1) buffer = some (r, b, -nI k, nI of) := by
  have hE := T.1
  have ha := t_ahead T hp
  have hk := t_peek T hp
  have h1 := sk_ge E tx p
  have h2 := sk_le (tx := tx) hp
  have hc3 := (t_ch T (sk E tx p)).2.2.1
  have hc4 := (t_ch T (sk E tx p)).2.2.2.1
  have hb := t_byteAt T (p := sk E tx p) (by omega)
  have hg : X7_isGood (nI 0) = some (nI 1) := rfl
  have hn0 : ¬ nI 1 = 0 := by decide +kernel
  unfold X3_readKind X7_kind
  rw [q_b2 hk, q_b1 hc3, q_b1 hg, if_neg hn0, q_b2 ha, show FU = 999999 + 1 from rfl, X7_kind_L21, show nI (sk E tx p) + (0 : Int32) = nI (sk E tx p) from nI_add _ 0, q_b1 hb, q_b1 (show X7_in (chA E tx (sk E tx p)) 97 122 = some (b01 (chB E tx ltB (sk E tx p))) from hc4)]
  cases hl : chB E tx ltB (sk E tx p) with
  | false =>
    refine Or.inr ⟨2, sk E tx p, nI (sk E tx p), num, nI 0, nI (sk E tx p), by omega, by omega, ?_, ?_⟩
    · simp (disch := omega) only [s_lit, s_b0, s_b1, s_b2, s_b3, s_b4, s_b5, s_b6, s_x0, s_x0l, s_t1, s_nm, s_ckT, s_ld, s_st, s_clamp, nI_add, pk_mul, s_sub, s_nad, s_div, s_mod, s_rem2, s_le_t, s_le_f, s_lt_t, s_lt_f, s_eq_t, s_eq_f, s_n1, s_n2, s_n3, s_n4, s_n5, s_n6, s_n7, s_n8, s_n9, s_n10, s_n11, s_n12, s_us, s_un, s_uLs, s_uLn, ↓reduceIte, not_false_eq_true, not_true_eq_false, true_and, and_true, and_self, or_false, false_or, or_self, true_or, or_true, false_and, and_false, Int32.neg_neg, Nat.add_zero, Nat.zero_add, Nat.reduceSub, Nat.reduceAdd, Nat.reduceMul, Nat.reduceLeDiff, b01, Bool.false_eq_true, X3_fail]
    · simp (disch := omega) only [s_lit, s_b0, s_b1, s_b2, s_b3, s_b4, s_b5, s_b6, s_x0, s_x0l, s_t1, s_nm, s_ckT, s_ld, s_st, s_clamp, nI_add, pk_mul, s_sub, s_nad, s_div, s_mod, s_rem2, s_le_t, s_le_f, s_lt_t, s_lt_f, s_eq_t, s_eq_f, s_n1, s_n2, s_n3, s_n4, s_n5, s_n6, s_n7, s_n8, s_n9, s_n10, s_n11, s_n12, s_us, s_un, s_uLs, s_uLn, ↓reduceIte, not_false_eq_true, not_true_eq_false, true_and, and_true, and_self, or_false, false_or, or_self, true_or, or_true, false_and, and_false, Int32.neg_neg, Nat.add_zero, Nat.zero_add, Nat.reduceSub, Nat.reduceAdd, Nat.reduceMul, Nat.reduceLeDiff, b01, Bool.false_eq_true, X7_report, X7_kind_J55, X7_kind_J67, X7_isGood]
  | true =>
    obtain ⟨c, hlt⟩ := chB_lt hl
    obtain ⟨l1, l2⟩ := ltB_t hlt
    obtain ⟨m, g1, g2, g3, g4, g5⟩ := t_kindL T (chA E tx (sk E tx p)) (nI (sk E tx p)) (st := sk E tx p) 999999 1 (by omega) (by omega) (Nat.le_refl _)
    have hch : chA E tx (sk E tx p) = nI (tx (sk E tx p)) := chA_in c
    have e1 : ¬ b01 true = 0 := hn0
    rw [if_neg e1, if_neg e1, show (0 : Int32) + 1 = nI 1 from by decide +kernel, q_nm (nI 1) _, g5, hch]
    by_cases c2 : sk E tx p + 1 < E
    · have hbl := (t_byte T c2).2.1
      cases hl2 : chB E tx ltB (sk E tx p + 1) with
      | false =>
        have hm : m = 1 := g2 hl2
        subst hm
        rw [chB_in c2] at hl2
        rw [hl2] at hbl
        refine Or.inl ⟨tx (sk E tx p) - 97, sk E tx p + 1, by omega, by omega, by omega, ?_, ?_⟩
        · simp (disch := omega) only [s_lit, s_b0, s_b1, s_b2, s_b3, s_b4, s_b5, s_b6, s_x0, s_x0l, s_t1, s_nm, s_ckT, s_ld, s_st, s_clamp, nI_add, pk_mul, s_sub, s_nad, s_div, s_mod, s_rem2, s_le_t, s_le_f, s_lt_t, s_lt_f, s_eq_t, s_eq_f, s_n1, s_n2, s_n3, s_n4, s_n5, s_n6, s_n7, s_n8, s_n9, s_n10, s_n11, s_n12, s_us, s_un, s_uLs, s_uLn, ↓reduceIte, not_false_eq_true, not_true_eq_false, true_and, and_true, and_self, or_false, false_or, or_self, true_or, or_true, false_and, and_false, Int32.neg_neg, Nat.add_zero, Nat.zero_add, Nat.reduceSub, Nat.reduceAdd, Nat.reduceMul, Nat.reduceLeDiff, hbl, b01, Bool.false_eq_true, X3_readKind_J82]
        · simp (disch := omega) only [s_lit, s_b0, s_b1, s_b2, s_b3, s_b4, s_b5, s_b6, s_x0, s_x0l, s_t1, s_nm, s_ckT, s_ld, s_st, s_clamp, nI_add, pk_mul, s_sub, s_nad, s_div, s_mod, s_rem2, s_le_t, s_le_f, s_lt_t, s_lt_f, s_eq_t, s_eq_f, s_n1, s_n2, s_n3, s_n4, s_n5, s_n6, s_n7, s_n8, s_n9, s_n10, s_n11, s_n12, s_us, s_un, s_uLs, s_uLn, ↓reduceIte, not_false_eq_true, not_true_eq_false, true_and, and_true, and_self, or_false, false_or, or_self, true_or, or_true, false_and, and_false, Int32.neg_neg, Nat.add_zero, Nat.zero_add, Nat.reduceSub, Nat.reduceAdd, Nat.reduceMul, Nat.reduceLeDiff, X7_kind_J55, X7_kind_J67, X7_isGood]
      | true =>
        have hm := g3 hl2
        rw [chB_in c2] at hl2
        rw [hl2] at hbl
        refine Or.inr ⟨3, sk E tx p, nI (sk E tx p + 1), nI (tx (sk E tx p) - 97), nI 0, nI (sk E tx p + m), by omega, by omega, ?_, ?_⟩
        · simp (disch := omega) only [s_lit, s_b0, s_b1, s_b2, s_b3, s_b4, s_b5, s_b6, s_x0, s_x0l, s_t1, s_nm, s_ckT, s_ld, s_st, s_clamp, nI_add, pk_mul, s_sub, s_nad, s_div, s_mod, s_rem2, s_le_t, s_le_f, s_lt_t, s_lt_f, s_eq_t, s_eq_f, s_n1, s_n2, s_n3, s_n4, s_n5, s_n6, s_n7, s_n8, s_n9, s_n10, s_n11, s_n12, s_us, s_un, s_uLs, s_uLn, ↓reduceIte, not_false_eq_true, not_true_eq_false, true_and, and_true, and_self, or_false, false_or, or_self, true_or, or_true, false_and, and_false, Int32.neg_neg, Nat.add_zero, Nat.zero_add, Nat.reduceSub, Nat.reduceAdd, Nat.reduceMul, Nat.reduceLeDiff, hbl, b01, X3_fail]
        · simp (disch := omega) only [s_lit, s_b0, s_b1, s_b2, s_b3, s_b4, s_b5, s_b6, s_x0, s_x0l, s_t1, s_nm, s_ckT, s_ld, s_st, s_clamp, nI_add, pk_mul, s_sub, s_nad, s_div, s_mod, s_rem2, s_le_t, s_le_f, s_lt_t, s_lt_f, s_eq_t, s_eq_f, s_n1, s_n2, s_n3, s_n4, s_n5, s_n6, s_n7, s_n8, s_n9, s_n10, s_n11, s_n12, s_us, s_un, s_uLs, s_uLn, ↓reduceIte, not_false_eq_true, not_true_eq_false, true_and, and_true, and_self, or_false, false_or, or_self, true_or, or_true, false_and, and_false, Int32.neg_neg, Nat.add_zero, Nat.zero_add, Nat.reduceSub, Nat.reduceAdd, Nat.reduceMul, Nat.reduceLeDiff, X7_kind_J55, X7_kind_J67, X7_report, X7_isGood]
    · have hm : m = 1 := g2 (chB_out c2)
      subst hm
      refine Or.inl ⟨tx (sk E tx p) - 97, sk E tx p + 1, by omega, by omega, by omega, ?_, ?_⟩
      · simp (disch := omega) only [s_lit, s_b0, s_b1, s_b2, s_b3, s_b4, s_b5, s_b6, s_x0, s_x0l, s_t1, s_nm, s_ckT, s_ld, s_st, s_clamp, nI_add, pk_mul, s_sub, s_nad, s_div, s_mod, s_rem2, s_le_t, s_le_f, s_lt_t, s_lt_f, s_eq_t, s_eq_f, s_n1, s_n2, s_n3, s_n4, s_n5, s_n6, s_n7, s_n8, s_n9, s_n10, s_n11, s_n12, s_us, s_un, s_uLs, s_uLn, ↓reduceIte, not_false_eq_true, not_true_eq_false, true_and, and_true, and_self, or_false, false_or, or_self, true_or, or_true, false_and, and_false, Int32.neg_neg, Nat.add_zero, Nat.zero_add, Nat.reduceSub, Nat.reduceAdd, Nat.reduceMul, Nat.reduceLeDiff, X3_readKind_J82]
      · simp (disch := omega) only [s_lit, s_b0, s_b1, s_b2, s_b3, s_b4, s_b5, s_b6, s_x0, s_x0l, s_t1, s_nm, s_ckT, s_ld, s_st, s_clamp, nI_add, pk_mul, s_sub, s_nad, s_div, s_mod, s_rem2, s_le_t, s_le_f, s_lt_t, s_lt_f, s_eq_t, s_eq_f, s_n1, s_n2, s_n3, s_n4, s_n5, s_n6, s_n7, s_n8, s_n9, s_n10, s_n11, s_n12, s_us, s_un, s_uLs, s_uLn, ↓reduceIte, not_false_eq_true, not_true_eq_false, true_and, and_true, and_self, or_false, false_or, or_self, true_or, or_true, false_and, and_false, Int32.neg_neg, Nat.add_zero, Nat.zero_add, Nat.reduceSub, Nat.reduceAdd, Nat.reduceMul, Nat.reduceLeDiff, X7_kind_J55, X7_kind_J67, X7_isGood]
end NUM
