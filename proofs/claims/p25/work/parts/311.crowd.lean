/-! PHASE 2: the crowd: one viewer's step, both sides -/
/-- both sides' rows of viewers are the same -/
def VRel (V : Nat) (facts data : Nat → Int32) : Prop := ∀ v, v < V → ∀ k, k < 7 → data (503 + 7 * v + k) = facts (v * 7 + k)
/-- the viewers and who looks through which hole -/
def VOne (HN : Nat) (lookers facts : Nat → Int32) (v : Nat) : Prop :=
  (∃ a, a ≤ 9 ∧ facts (v * 7) = nI a) ∧ (∃ a, a < 26 ∧ facts (v * 7 + 1) = nI a) ∧ (∃ a, a ≤ 999 ∧ facts (v * 7 + 2) = nI a) ∧ (∃ a, a ≤ 999 ∧ facts (v * 7 + 6) = nI a) ∧
  ((facts (v * 7 + 3) = nI 1 ∧ ∃ k t, k < HN ∧ facts (v * 7 + 4) = nI k ∧ lookers k = nI v ∧ 1 ≤ t ∧ t ≤ 20 ∧ facts (v * 7 + 5) = nI t) ∨
   ((facts (v * 7 + 3) = nI 0 ∨ facts (v * 7 + 3) = nI 2 ∨ facts (v * 7 + 3) = nI 3) ∧ facts (v * 7 + 4) = -nI 1 ∧ facts (v * 7 + 5) = nI 0))
def CInv (V HN : Nat) (lookers facts : Nat → Int32) : Prop :=
  (∀ v, v < V → VOne HN lookers facts v) ∧ ∀ k, k < HN → lookers k = -nI 1 ∨ ∃ v, v < V ∧ lookers k = nI v ∧ facts (v * 7 + 3) = nI 1 ∧ facts (v * 7 + 4) = nI k
/-- one viewer's cells are set anew -/
def Own (f f' : Nat → Int32) (v : Nat) (x2 x3 x4 x5 x6 : Int32) : Prop := (∀ m, m ≠ v * 7 + 2 → m ≠ v * 7 + 3 → m ≠ v * 7 + 4 → m ≠ v * 7 + 5 → m ≠ v * 7 + 6 → f' m = f m) ∧ f' (v * 7 + 2) = x2 ∧ f' (v * 7 + 3) = x3 ∧ f' (v * 7 + 4) = x4 ∧ f' (v * 7 + 5) = x5 ∧ f' (v * 7 + 6) = x6
def OwnD (d d' : Nat → Int32) (v : Nat) (x2 x3 x4 x5 x6 : Int32) : Prop := (∀ m, m ≠ 503 + 7 * v + 2 → m ≠ 503 + 7 * v + 3 → m ≠ 503 + 7 * v + 4 → m ≠ 503 + 7 * v + 5 → m ≠ 503 + 7 * v + 6 → d' m = d m) ∧ d' (503 + 7 * v + 2) = x2 ∧ d' (503 + 7 * v + 3) = x3 ∧ d' (503 + 7 * v + 4) = x4 ∧ d' (503 + 7 * v + 5) = x5 ∧ d' (503 + 7 * v + 6) = x6
theorem Own.other {f f' : Nat → Int32} {v : Nat} {x2 x3 x4 x5 x6 : Int32} (O : Own f f' v x2 x3 x4 x5 x6) {u k : Nat} (h : u ≠ v) (hk : k < 7) : f' (u * 7 + k) = f (u * 7 + k) := O.1 _ (by omega) (by omega) (by omega) (by omega) (by omega)
theorem Own.rel {V : Nat} {f f' d d' : Nat → Int32} {v : Nat} {x2 x3 x4 x5 x6 : Int32} (R : VRel V f d) (O : Own f f' v x2 x3 x4 x5 x6) (D : OwnD d d' v x2 x3 x4 x5 x6) : VRel V f' d' := by
  intro u hu k hk
  by_cases e : u = v
  · subst e
    obtain ⟨o0, o2, o3, o4, o5, o6⟩ := O
    obtain ⟨d0, d2, d3, d4, d5, d6⟩ := D
    rcases (show k = 0 ∨ k = 1 ∨ k = 2 ∨ k = 3 ∨ k = 4 ∨ k = 5 ∨ k = 6 by omega) with e | e | e | e | e | e | e <;> subst e
    · rw [d0 _ (by omega) (by omega) (by omega) (by omega) (by omega), o0 _ (by omega) (by omega) (by omega) (by omega) (by omega)]; exact R u hu 0 hk
    · rw [d0 _ (by omega) (by omega) (by omega) (by omega) (by omega), o0 _ (by omega) (by omega) (by omega) (by omega) (by omega)]; exact R u hu 1 hk
    · rw [d2, o2]
    · rw [d3, o3]
    · rw [d4, o4]
    · rw [d5, o5]
    · rw [d6, o6]
  · rw [D.1 _ (by omega) (by omega) (by omega) (by omega) (by omega), O.other e hk]; exact R u hu k hk
/-- the rows of the box are left as they are -/
def Sm (d d' : Nat → Int32) : Prop := ∀ j, (j < 503 ∨ 643 ≤ j) → j ≠ 6 → d' j = d j
theorem Sm.refl (d : Nat → Int32) : Sm d d := fun _ _ _ => rfl
theorem Sm.trans {a b c : Nat → Int32} (h : Sm a b) (g : Sm b c) : Sm a c := fun j h1 h2 => (g j h1 h2).trans (h j h1 h2)
theorem OwnD.sm {d d' : Nat → Int32} {v : Nat} {x2 x3 x4 x5 x6 : Int32} (D : OwnD d d' v x2 x3 x4 x5 x6) (hv : v < 20) : Sm d d' := fun j h1 h2 => D.1 j (by omega) (by omega) (by omega) (by omega) (by omega)
theorem OwnD.time {d d' : Nat → Int32} {v : Nat} {x2 x3 x4 x5 x6 : Int32} (D : OwnD d d' v x2 x3 x4 x5 x6) : d' 6 = d 6 := D.1 6 (by omega) (by omega) (by omega) (by omega) (by omega)
/-- the cache of prices -/
def PCa (HN : Nat) (Pf : Nat → Nat → Nat) (prices : Nat → Int32) : Prop := ∀ k, k < HN → ∀ q, q < 26 → prices (k * 26 + q) = -nI 1 ∨ prices (k * 26 + q) = nI (Pf k q)
theorem PCa.put {HN : Nat} {Pf : Nat → Nat → Nat} {prices p1 : Nat → Int32} (h : PCa HN Pf prices) {k q : Nat} (hq : q < 26) (e : p1 = prices ∨ p1 = upd prices (k * 26 + q) (nI (Pf k q))) : PCa HN Pf p1 := by
  rcases e with e | e
  · rw [e]; exact h
  · rw [e]
    intro k' hk' q' hq'
    by_cases c : k' * 26 + q' = k * 26 + q
    · have e1 : k' = k := by omega
      have e2 : q' = q := by omega
      rw [c, pk_us, e1, e2]; exact Or.inr rfl
    · rw [pk_un c]; exact h k' hk' q' hq'
/-- what the class's crowd takes of the box: prices and counts -/
def CAsk (HN : Nat) (Pf Cf : Nat → Nat → Nat) (sz : Nat) (codes counts kinds depths : Nat → Int32) : Prop :=
  (∀ k, k < HN → ∀ q, q < 26 → ∀ prices waiting : Nat → Int32, (prices (k * 26 + q) = -nI 1 ∨ prices (k * 26 + q) = nI (Pf k q)) → ∃ p1 w1, X5_priceFor counts kinds depths prices (nI sz) codes waiting (nI q) (nI k) = some (nI (Pf k q), p1, w1) ∧ (p1 = prices ∨ p1 = upd prices (k * 26 + q) (nI (Pf k q)))) ∧
  ∀ k, k < HN → ∀ q, q < 26 → counts (k * 26 + q) = nI (Cf k q) ∧ Cf k q ≤ 96 ∧ Pf k q ≤ 999
/-- .. and the reference's -/
def RAsk (V HN LL : Nat) (hI rI : Int32) (holeY : Nat → Int32) (Pf Cf : Nat → Nat → Nat) (d : Nat → Int32) : Prop :=
  (∀ k, k < HN → ∀ q, q < 26 → (∀ (stack : Nat → Int64) (f : Nat → Int32), ∃ s1 f1, X7_priceOf d stack f (nI q) (nI k) = some (nI (Pf k q), s1, f1)) ∧ X7_showing d (nI k) (nI q) = some (nI (Cf k q))) ∧
  (∀ k, k < HN → X7_holeY d (nI k) = some (holeY k)) ∧ d 1 = hI ∧ d 4 = rI ∧ d 3 = nI HN ∧ d 5 = nI LL ∧ d 7 = nI V
theorem q_b4 {A0 A1 A2 A3 β : Type} {x : Option (A0 × A1 × A2 × A3)} {a : A0} {b : A1} {c : A2} {d : A3} {k : A0 → A1 → A2 → A3 → Option β} (h : x = some (a, b, c, d)) : bn4 x k = k a b c d := by rw [h]; rfl
theorem q_b5 {A0 A1 A2 A3 A4 β : Type} {x : Option (A0 × A1 × A2 × A3 × A4)} {a : A0} {b : A1} {c : A2} {d : A3} {e : A4} {k : A0 → A1 → A2 → A3 → A4 → Option β} (h : x = some (a, b, c, d, e)) : bn5 x k = k a b c d e := by rw [h]; rfl
theorem q_min {a b : Nat} (ha : a < 2 ^ 31) (hb : b < 2 ^ 31) : (if nI a < nI b then nI a else nI b) = nI (min a b) := by
  by_cases c : a < b
  · rw [if_pos (nI_lt c hb), Nat.min_eq_left (by omega)]
  · rw [if_neg (nI_nlt (by omega) ha), Nat.min_eq_right (by omega)]
theorem r_min {a b : Nat} (ha : a < 2 ^ 31) (hb : b < 2 ^ 31) : X7_min (nI b) (nI a) = some (nI (min a b)) := by
  unfold X7_min
  by_cases c : a ≤ b
  · rw [if_pos (nI_le c hb), Nat.min_eq_left c]
  · rw [if_neg (nI_ge (by omega) ha), Nat.min_eq_right (by omega)]
theorem q_set (facts : Nat → Int32) {v k : Nat} {y z : Int32} (hy : y = nI k) (hv : v < 20) (hk : k < 7) : X1_set facts (nI v) y z = some (upd facts (v * 7 + k) z) := by
  subst hy
  unfold X1_set
  simp (disch := omega) only [s_lit, s_b0, s_b1, s_b2, s_b3, s_b4, s_b5, s_b6, s_x0, s_x0l, s_t1, s_nm, s_ckT, s_ld, s_st, s_clamp, nI_add, pk_mul, s_sub, s_nad, s_div, s_mod, s_rem2, s_le_t, s_le_f, s_lt_t, s_lt_f, s_eq_t, s_eq_f, s_n1, s_n2, s_n3, s_n4, s_n5, s_n6, s_n7, s_n8, s_n9, s_n10, s_n11, s_n12, s_us, s_un, s_uLs, s_uLn, ↓reduceIte, not_false_eq_true, not_true_eq_false, true_and, and_true, and_self, or_false, false_or, or_self, true_or, or_true, false_and, and_false, Int32.neg_neg, Nat.add_zero, Nat.zero_add, Nat.reduceSub, Nat.reduceAdd, Nat.reduceMul, Nat.reduceLeDiff]
theorem q_factN (facts : Nat → Int32) {v k : Nat} (hv : v < 20) (hk : k < 7) : X1_fact facts (nI v) (nI k) = some (facts (v * 7 + k)) := q_fact facts rfl rfl hv hk
theorem r_ofN (data : Nat → Int32) {v k : Nat} (hv : v < 20) (hk : k < 7) : X7_of data (nI v) (nI k) = some (data (503 + 7 * v + k)) := q_of data rfl rfl hv hk
theorem r_setN (data : Nat → Int32) {v k : Nat} {z : Int32} (hv : v < 20) (hk : k < 7) : X7_set data (nI v) (nI k) z = some (upd data (503 + 7 * v + k) z) := by
  unfold X7_set
  simp (disch := omega) only [s_lit, s_b0, s_b1, s_b2, s_b3, s_b4, s_b5, s_b6, s_x0, s_x0l, s_t1, s_nm, s_ckT, s_ld, s_st, s_clamp, nI_add, pk_mul, s_sub, s_nad, s_div, s_mod, s_rem2, s_le_t, s_le_f, s_lt_t, s_lt_f, s_eq_t, s_eq_f, s_n1, s_n2, s_n3, s_n4, s_n5, s_n6, s_n7, s_n8, s_n9, s_n10, s_n11, s_n12, s_us, s_un, s_uLs, s_uLn, ↓reduceIte, not_false_eq_true, not_true_eq_false, true_and, and_true, and_self, or_false, false_or, or_self, true_or, or_true, false_and, and_false, Int32.neg_neg, Nat.add_zero, Nat.zero_add, Nat.reduceSub, Nat.reduceAdd, Nat.reduceMul, Nat.reduceLeDiff]
theorem q_setN (facts : Nat → Int32) {v k : Nat} {z : Int32} (hv : v < 20) (hk : k < 7) : X1_set facts (nI v) (nI k) z = some (upd facts (v * 7 + k) z) := q_set facts rfl hv hk
theorem q_endLook (facts : Nat → Int32) {v : Nat} {s : Int32} (hv : v < 20) : X1_endLook facts (nI v) s = some (upd (upd (upd facts (v * 7 + 3) s) (v * 7 + 4) (-nI 1)) (v * 7 + 5) (nI 0)) := by
  unfold X1_endLook
  simp (disch := omega) only [s_lit, s_b0, s_b1, s_b2, s_b3, s_b4, s_b5, s_b6, s_x0, s_x0l, s_t1, s_nm, s_ckT, s_ld, s_st, s_clamp, nI_add, pk_mul, s_sub, s_nad, s_div, s_mod, s_rem2, s_le_t, s_le_f, s_lt_t, s_lt_f, s_eq_t, s_eq_f, s_n1, s_n2, s_n3, s_n4, s_n5, s_n6, s_n7, s_n8, s_n9, s_n10, s_n11, s_n12, s_us, s_un, s_uLs, s_uLn, ↓reduceIte, not_false_eq_true, not_true_eq_false, true_and, and_true, and_self, or_false, false_or, or_self, true_or, or_true, false_and, and_false, Int32.neg_neg, Nat.add_zero, Nat.zero_add, Nat.reduceSub, Nat.reduceAdd, Nat.reduceMul, Nat.reduceLeDiff, q_setN]
/-- a look goes on, or ends: the class -/
theorem q_lookOn {HN sz : Nat} {Pf Cf : Nat → Nat → Nat} {codes counts kinds depths : Nat → Int32} (A : CAsk HN Pf Cf sz codes counts kinds depths) {lookers facts prices : Nat → Int32} (waiting : Nat → Int32) {v k t c q : Nat} (hv : v < 20) (hH : HN ≤ 4) (hk : k < HN) (hq : q < 26) (hc : c ≤ 999) (t1 : 1 ≤ t) (t2 : t ≤ 20)
    (f1 : facts (v * 7 + 1) = nI q) (f2 : facts (v * 7 + 2) = nI c) (f4 : facts (v * 7 + 4) = nI k) (f5 : facts (v * 7 + 5) = nI t) (hP : PCa HN Pf prices) :
    ∃ l1 f1 w1 p1, X1_lookOn lookers facts (nI sz) codes waiting counts kinds depths prices (nI v) = some (l1, f1, w1, p1) ∧ PCa HN Pf p1 ∧
      ((1 < t ∧ l1 = lookers ∧ Own facts f1 v (nI c) (facts (v * 7 + 3)) (nI k) (nI (t - 1)) (facts (v * 7 + 6))) ∨
       (t = 1 ∧ l1 = upd lookers k (-nI 1) ∧ Own facts f1 v (nI (c - min (Pf k q) c)) (nI 2) (-nI 1) (nI 0) (nI (min (Pf k q) c)))) := by
  unfold X1_lookOn
  by_cases ht : t = 1
  · subst ht
    obtain ⟨p1, w1, hp1, hp2⟩ := A.1 k hk q hq prices waiting (hP k hk q hq)
    have hb := (A.2 k hk q hq).2.2
    have hmin : min (Pf k q) c ≤ c := Nat.min_le_right _ _
    refine ⟨upd lookers k (-nI 1), upd (upd (upd (upd (upd (upd facts (v * 7 + 5) (nI 0)) (v * 7 + 2) (nI (c - min (Pf k q) c))) (v * 7 + 6) (nI (min (Pf k q) c))) (v * 7 + 3) (nI 2)) (v * 7 + 4) (-nI 1)) (v * 7 + 5) (nI 0), w1, p1, ?_, hP.put hq hp2, Or.inr ⟨rfl, rfl, ?_⟩⟩
    · simp (disch := omega) only [s_lit, s_b0, s_b1, s_b2, s_b3, s_b4, s_b5, s_b6, s_x0, s_x0l, s_t1, s_nm, s_ckT, s_ld, s_st, s_clamp, nI_add, pk_mul, s_sub, s_nad, s_div, s_mod, s_rem2, s_le_t, s_le_f, s_lt_t, s_lt_f, s_eq_t, s_eq_f, s_n1, s_n2, s_n3, s_n4, s_n5, s_n6, s_n7, s_n8, s_n9, s_n10, s_n11, s_n12, s_us, s_un, s_uLs, s_uLn, ↓reduceIte, not_false_eq_true, not_true_eq_false, true_and, and_true, and_self, or_false, false_or, or_self, true_or, or_true, false_and, and_false, Int32.neg_neg, Nat.add_zero, Nat.zero_add, Nat.reduceSub, Nat.reduceAdd, Nat.reduceMul, Nat.reduceLeDiff, q_factN, q_setN, q_endLook, f1, f2, f4, f5, hp1, q_min, Nat.sub_self]
    · refine ⟨fun m h2 h3 h4 h5 h6 => ?_, ?_, ?_, ?_, ?_, ?_⟩
      · rw [pk_un h5, pk_un h4, pk_un h3, pk_un h6, pk_un h2, pk_un h5]
      · simp (disch := omega) only [s_lit, s_b0, s_b1, s_b2, s_b3, s_b4, s_b5, s_b6, s_x0, s_x0l, s_t1, s_nm, s_ckT, s_ld, s_st, s_clamp, nI_add, pk_mul, s_sub, s_nad, s_div, s_mod, s_rem2, s_le_t, s_le_f, s_lt_t, s_lt_f, s_eq_t, s_eq_f, s_n1, s_n2, s_n3, s_n4, s_n5, s_n6, s_n7, s_n8, s_n9, s_n10, s_n11, s_n12, s_us, s_un, s_uLs, s_uLn, ↓reduceIte, not_false_eq_true, not_true_eq_false, true_and, and_true, and_self, or_false, false_or, or_self, true_or, or_true, false_and, and_false, Int32.neg_neg, Nat.add_zero, Nat.zero_add, Nat.reduceSub, Nat.reduceAdd, Nat.reduceMul, Nat.reduceLeDiff]
      · simp (disch := omega) only [s_lit, s_b0, s_b1, s_b2, s_b3, s_b4, s_b5, s_b6, s_x0, s_x0l, s_t1, s_nm, s_ckT, s_ld, s_st, s_clamp, nI_add, pk_mul, s_sub, s_nad, s_div, s_mod, s_rem2, s_le_t, s_le_f, s_lt_t, s_lt_f, s_eq_t, s_eq_f, s_n1, s_n2, s_n3, s_n4, s_n5, s_n6, s_n7, s_n8, s_n9, s_n10, s_n11, s_n12, s_us, s_un, s_uLs, s_uLn, ↓reduceIte, not_false_eq_true, not_true_eq_false, true_and, and_true, and_self, or_false, false_or, or_self, true_or, or_true, false_and, and_false, Int32.neg_neg, Nat.add_zero, Nat.zero_add, Nat.reduceSub, Nat.reduceAdd, Nat.reduceMul, Nat.reduceLeDiff]
      · simp (disch := omega) only [s_lit, s_b0, s_b1, s_b2, s_b3, s_b4, s_b5, s_b6, s_x0, s_x0l, s_t1, s_nm, s_ckT, s_ld, s_st, s_clamp, nI_add, pk_mul, s_sub, s_nad, s_div, s_mod, s_rem2, s_le_t, s_le_f, s_lt_t, s_lt_f, s_eq_t, s_eq_f, s_n1, s_n2, s_n3, s_n4, s_n5, s_n6, s_n7, s_n8, s_n9, s_n10, s_n11, s_n12, s_us, s_un, s_uLs, s_uLn, ↓reduceIte, not_false_eq_true, not_true_eq_false, true_and, and_true, and_self, or_false, false_or, or_self, true_or, or_true, false_and, and_false, Int32.neg_neg, Nat.add_zero, Nat.zero_add, Nat.reduceSub, Nat.reduceAdd, Nat.reduceMul, Nat.reduceLeDiff]
      · simp (disch := omega) only [s_lit, s_b0, s_b1, s_b2, s_b3, s_b4, s_b5, s_b6, s_x0, s_x0l, s_t1, s_nm, s_ckT, s_ld, s_st, s_clamp, nI_add, pk_mul, s_sub, s_nad, s_div, s_mod, s_rem2, s_le_t, s_le_f, s_lt_t, s_lt_f, s_eq_t, s_eq_f, s_n1, s_n2, s_n3, s_n4, s_n5, s_n6, s_n7, s_n8, s_n9, s_n10, s_n11, s_n12, s_us, s_un, s_uLs, s_uLn, ↓reduceIte, not_false_eq_true, not_true_eq_false, true_and, and_true, and_self, or_false, false_or, or_self, true_or, or_true, false_and, and_false, Int32.neg_neg, Nat.add_zero, Nat.zero_add, Nat.reduceSub, Nat.reduceAdd, Nat.reduceMul, Nat.reduceLeDiff]
      · simp (disch := omega) only [s_lit, s_b0, s_b1, s_b2, s_b3, s_b4, s_b5, s_b6, s_x0, s_x0l, s_t1, s_nm, s_ckT, s_ld, s_st, s_clamp, nI_add, pk_mul, s_sub, s_nad, s_div, s_mod, s_rem2, s_le_t, s_le_f, s_lt_t, s_lt_f, s_eq_t, s_eq_f, s_n1, s_n2, s_n3, s_n4, s_n5, s_n6, s_n7, s_n8, s_n9, s_n10, s_n11, s_n12, s_us, s_un, s_uLs, s_uLn, ↓reduceIte, not_false_eq_true, not_true_eq_false, true_and, and_true, and_self, or_false, false_or, or_self, true_or, or_true, false_and, and_false, Int32.neg_neg, Nat.add_zero, Nat.zero_add, Nat.reduceSub, Nat.reduceAdd, Nat.reduceMul, Nat.reduceLeDiff]
  · refine ⟨lookers, upd facts (v * 7 + 5) (nI (t - 1)), waiting, prices, ?_, hP, Or.inl ⟨by omega, rfl, ?_⟩⟩
    · simp (disch := omega) only [s_lit, s_b0, s_b1, s_b2, s_b3, s_b4, s_b5, s_b6, s_x0, s_x0l, s_t1, s_nm, s_ckT, s_ld, s_st, s_clamp, nI_add, pk_mul, s_sub, s_nad, s_div, s_mod, s_rem2, s_le_t, s_le_f, s_lt_t, s_lt_f, s_eq_t, s_eq_f, s_n1, s_n2, s_n3, s_n4, s_n5, s_n6, s_n7, s_n8, s_n9, s_n10, s_n11, s_n12, s_us, s_un, s_uLs, s_uLn, ↓reduceIte, not_false_eq_true, not_true_eq_false, true_and, and_true, and_self, or_false, false_or, or_self, true_or, or_true, false_and, and_false, Int32.neg_neg, Nat.add_zero, Nat.zero_add, Nat.reduceSub, Nat.reduceAdd, Nat.reduceMul, Nat.reduceLeDiff, q_factN, q_setN, f5]
    · refine ⟨fun m h2 h3 h4 h5 h6 => ?_, ?_, ?_, ?_, ?_, ?_⟩
      · rw [pk_un h5]
      · simp (disch := omega) only [s_lit, s_b0, s_b1, s_b2, s_b3, s_b4, s_b5, s_b6, s_x0, s_x0l, s_t1, s_nm, s_ckT, s_ld, s_st, s_clamp, nI_add, pk_mul, s_sub, s_nad, s_div, s_mod, s_rem2, s_le_t, s_le_f, s_lt_t, s_lt_f, s_eq_t, s_eq_f, s_n1, s_n2, s_n3, s_n4, s_n5, s_n6, s_n7, s_n8, s_n9, s_n10, s_n11, s_n12, s_us, s_un, s_uLs, s_uLn, ↓reduceIte, not_false_eq_true, not_true_eq_false, true_and, and_true, and_self, or_false, false_or, or_self, true_or, or_true, false_and, and_false, Int32.neg_neg, Nat.add_zero, Nat.zero_add, Nat.reduceSub, Nat.reduceAdd, Nat.reduceMul, Nat.reduceLeDiff, f2]
      · simp (disch := omega) only [s_lit, s_b0, s_b1, s_b2, s_b3, s_b4, s_b5, s_b6, s_x0, s_x0l, s_t1, s_nm, s_ckT, s_ld, s_st, s_clamp, nI_add, pk_mul, s_sub, s_nad, s_div, s_mod, s_rem2, s_le_t, s_le_f, s_lt_t, s_lt_f, s_eq_t, s_eq_f, s_n1, s_n2, s_n3, s_n4, s_n5, s_n6, s_n7, s_n8, s_n9, s_n10, s_n11, s_n12, s_us, s_un, s_uLs, s_uLn, ↓reduceIte, not_false_eq_true, not_true_eq_false, true_and, and_true, and_self, or_false, false_or, or_self, true_or, or_true, false_and, and_false, Int32.neg_neg, Nat.add_zero, Nat.zero_add, Nat.reduceSub, Nat.reduceAdd, Nat.reduceMul, Nat.reduceLeDiff]
      · simp (disch := omega) only [s_lit, s_b0, s_b1, s_b2, s_b3, s_b4, s_b5, s_b6, s_x0, s_x0l, s_t1, s_nm, s_ckT, s_ld, s_st, s_clamp, nI_add, pk_mul, s_sub, s_nad, s_div, s_mod, s_rem2, s_le_t, s_le_f, s_lt_t, s_lt_f, s_eq_t, s_eq_f, s_n1, s_n2, s_n3, s_n4, s_n5, s_n6, s_n7, s_n8, s_n9, s_n10, s_n11, s_n12, s_us, s_un, s_uLs, s_uLn, ↓reduceIte, not_false_eq_true, not_true_eq_false, true_and, and_true, and_self, or_false, false_or, or_self, true_or, or_true, false_and, and_false, Int32.neg_neg, Nat.add_zero, Nat.zero_add, Nat.reduceSub, Nat.reduceAdd, Nat.reduceMul, Nat.reduceLeDiff, f4]
      · simp (disch := omega) only [s_lit, s_b0, s_b1, s_b2, s_b3, s_b4, s_b5, s_b6, s_x0, s_x0l, s_t1, s_nm, s_ckT, s_ld, s_st, s_clamp, nI_add, pk_mul, s_sub, s_nad, s_div, s_mod, s_rem2, s_le_t, s_le_f, s_lt_t, s_lt_f, s_eq_t, s_eq_f, s_n1, s_n2, s_n3, s_n4, s_n5, s_n6, s_n7, s_n8, s_n9, s_n10, s_n11, s_n12, s_us, s_un, s_uLs, s_uLn, ↓reduceIte, not_false_eq_true, not_true_eq_false, true_and, and_true, and_self, or_false, false_or, or_self, true_or, or_true, false_and, and_false, Int32.neg_neg, Nat.add_zero, Nat.zero_add, Nat.reduceSub, Nat.reduceAdd, Nat.reduceMul, Nat.reduceLeDiff]
      · simp (disch := omega) only [s_lit, s_b0, s_b1, s_b2, s_b3, s_b4, s_b5, s_b6, s_x0, s_x0l, s_t1, s_nm, s_ckT, s_ld, s_st, s_clamp, nI_add, pk_mul, s_sub, s_nad, s_div, s_mod, s_rem2, s_le_t, s_le_f, s_lt_t, s_lt_f, s_eq_t, s_eq_f, s_n1, s_n2, s_n3, s_n4, s_n5, s_n6, s_n7, s_n8, s_n9, s_n10, s_n11, s_n12, s_us, s_un, s_uLs, s_uLn, ↓reduceIte, not_false_eq_true, not_true_eq_false, true_and, and_true, and_self, or_false, false_or, or_self, true_or, or_true, false_and, and_false, Int32.neg_neg, Nat.add_zero, Nat.zero_add, Nat.reduceSub, Nat.reduceAdd, Nat.reduceMul, Nat.reduceLeDiff]
/-- .. and the reference -/
theorem r_look {V HN LL : Nat} {hI rI : Int32} {holeY : Nat → Int32} {Pf Cf : Nat → Nat → Nat} {d0 data : Nat → Int32} (A : ∀ d, Sm d0 d → RAsk V HN LL hI rI holeY Pf Cf d) (hS : Sm d0 data) (stack : Nat → Int64) (fc : Nat → Int32) {v k t c q : Nat} (hv : v < 20) (hk : k < HN) (hq : q < 26) (hc : c ≤ 999) (hpp : Pf k q ≤ 999) (t1 : 1 ≤ t) (t2 : t ≤ 20)
    (f1 : data (503 + 7 * v + 1) = nI q) (f2 : data (503 + 7 * v + 2) = nI c) (f4 : data (503 + 7 * v + 4) = nI k) (f5 : data (503 + 7 * v + 5) = nI t) :
    ∃ d1 s1 g1, X7_look data stack fc (nI v) = some (d1, s1, g1) ∧
      ((1 < t ∧ OwnD data d1 v (nI c) (data (503 + 7 * v + 3)) (nI k) (nI (t - 1)) (data (503 + 7 * v + 6))) ∨
       (t = 1 ∧ OwnD data d1 v (nI (c - min (Pf k q) c)) (nI 2) (-nI 1) (nI 0) (nI (min (Pf k q) c)))) := by
  unfold X7_look
  by_cases ht : t = 1
  · subst ht
    have hS1 : Sm d0 (upd data (503 + 7 * v + 5) (nI 0)) := fun j h1 h2 => (pk_un (by omega)).trans (hS j h1 h2)
    obtain ⟨s1, g1, hp1⟩ := ((A _ hS1).1 k hk q hq).1 stack fc
    have hmin : min (Pf k q) c ≤ c := Nat.min_le_right _ _
    refine ⟨upd (upd (upd (upd (upd data (503 + 7 * v + 5) (nI 0)) (503 + 7 * v + 2) (nI (c - min (Pf k q) c))) (503 + 7 * v + 6) (nI (min (Pf k q) c))) (503 + 7 * v + 3) (nI 2)) (503 + 7 * v + 4) (-nI 1), s1, g1, ?_, Or.inr ⟨rfl, ?_⟩⟩
    · simp (disch := omega) only [s_lit, s_b0, s_b1, s_b2, s_b3, s_b4, s_b5, s_b6, s_x0, s_x0l, s_t1, s_nm, s_ckT, s_ld, s_st, s_clamp, nI_add, pk_mul, s_sub, s_nad, s_div, s_mod, s_rem2, s_le_t, s_le_f, s_lt_t, s_lt_f, s_eq_t, s_eq_f, s_n1, s_n2, s_n3, s_n4, s_n5, s_n6, s_n7, s_n8, s_n9, s_n10, s_n11, s_n12, s_us, s_un, s_uLs, s_uLn, ↓reduceIte, not_false_eq_true, not_true_eq_false, true_and, and_true, and_self, or_false, false_or, or_self, true_or, or_true, false_and, and_false, Int32.neg_neg, Nat.add_zero, Nat.zero_add, Nat.reduceSub, Nat.reduceAdd, Nat.reduceMul, Nat.reduceLeDiff, r_ofN, r_setN, f1, f2, f4, f5, hp1, r_min, Nat.sub_self]
    · refine ⟨fun m h2 h3 h4 h5 h6 => ?_, ?_, ?_, ?_, ?_, ?_⟩
      · rw [pk_un h4, pk_un h3, pk_un h6, pk_un h2, pk_un h5]
      · simp (disch := omega) only [s_lit, s_b0, s_b1, s_b2, s_b3, s_b4, s_b5, s_b6, s_x0, s_x0l, s_t1, s_nm, s_ckT, s_ld, s_st, s_clamp, nI_add, pk_mul, s_sub, s_nad, s_div, s_mod, s_rem2, s_le_t, s_le_f, s_lt_t, s_lt_f, s_eq_t, s_eq_f, s_n1, s_n2, s_n3, s_n4, s_n5, s_n6, s_n7, s_n8, s_n9, s_n10, s_n11, s_n12, s_us, s_un, s_uLs, s_uLn, ↓reduceIte, not_false_eq_true, not_true_eq_false, true_and, and_true, and_self, or_false, false_or, or_self, true_or, or_true, false_and, and_false, Int32.neg_neg, Nat.add_zero, Nat.zero_add, Nat.reduceSub, Nat.reduceAdd, Nat.reduceMul, Nat.reduceLeDiff]
      · simp (disch := omega) only [s_lit, s_b0, s_b1, s_b2, s_b3, s_b4, s_b5, s_b6, s_x0, s_x0l, s_t1, s_nm, s_ckT, s_ld, s_st, s_clamp, nI_add, pk_mul, s_sub, s_nad, s_div, s_mod, s_rem2, s_le_t, s_le_f, s_lt_t, s_lt_f, s_eq_t, s_eq_f, s_n1, s_n2, s_n3, s_n4, s_n5, s_n6, s_n7, s_n8, s_n9, s_n10, s_n11, s_n12, s_us, s_un, s_uLs, s_uLn, ↓reduceIte, not_false_eq_true, not_true_eq_false, true_and, and_true, and_self, or_false, false_or, or_self, true_or, or_true, false_and, and_false, Int32.neg_neg, Nat.add_zero, Nat.zero_add, Nat.reduceSub, Nat.reduceAdd, Nat.reduceMul, Nat.reduceLeDiff]
      · simp (disch := omega) only [s_lit, s_b0, s_b1, s_b2, s_b3, s_b4, s_b5, s_b6, s_x0, s_x0l, s_t1, s_nm, s_ckT, s_ld, s_st, s_clamp, nI_add, pk_mul, s_sub, s_nad, s_div, s_mod, s_rem2, s_le_t, s_le_f, s_lt_t, s_lt_f, s_eq_t, s_eq_f, s_n1, s_n2, s_n3, s_n4, s_n5, s_n6, s_n7, s_n8, s_n9, s_n10, s_n11, s_n12, s_us, s_un, s_uLs, s_uLn, ↓reduceIte, not_false_eq_true, not_true_eq_false, true_and, and_true, and_self, or_false, false_or, or_self, true_or, or_true, false_and, and_false, Int32.neg_neg, Nat.add_zero, Nat.zero_add, Nat.reduceSub, Nat.reduceAdd, Nat.reduceMul, Nat.reduceLeDiff]
      · simp (disch := omega) only [s_lit, s_b0, s_b1, s_b2, s_b3, s_b4, s_b5, s_b6, s_x0, s_x0l, s_t1, s_nm, s_ckT, s_ld, s_st, s_clamp, nI_add, pk_mul, s_sub, s_nad, s_div, s_mod, s_rem2, s_le_t, s_le_f, s_lt_t, s_lt_f, s_eq_t, s_eq_f, s_n1, s_n2, s_n3, s_n4, s_n5, s_n6, s_n7, s_n8, s_n9, s_n10, s_n11, s_n12, s_us, s_un, s_uLs, s_uLn, ↓reduceIte, not_false_eq_true, not_true_eq_false, true_and, and_true, and_self, or_false, false_or, or_self, true_or, or_true, false_and, and_false, Int32.neg_neg, Nat.add_zero, Nat.zero_add, Nat.reduceSub, Nat.reduceAdd, Nat.reduceMul, Nat.reduceLeDiff]
      · simp (disch := omega) only [s_lit, s_b0, s_b1, s_b2, s_b3, s_b4, s_b5, s_b6, s_x0, s_x0l, s_t1, s_nm, s_ckT, s_ld, s_st, s_clamp, nI_add, pk_mul, s_sub, s_nad, s_div, s_mod, s_rem2, s_le_t, s_le_f, s_lt_t, s_lt_f, s_eq_t, s_eq_f, s_n1, s_n2, s_n3, s_n4, s_n5, s_n6, s_n7, s_n8, s_n9, s_n10, s_n11, s_n12, s_us, s_un, s_uLs, s_uLn, ↓reduceIte, not_false_eq_true, not_true_eq_false, true_and, and_true, and_self, or_false, false_or, or_self, true_or, or_true, false_and, and_false, Int32.neg_neg, Nat.add_zero, Nat.zero_add, Nat.reduceSub, Nat.reduceAdd, Nat.reduceMul, Nat.reduceLeDiff]
  · refine ⟨upd data (503 + 7 * v + 5) (nI (t - 1)), stack, fc, ?_, Or.inl ⟨by omega, ?_⟩⟩
    · simp (disch := omega) only [s_lit, s_b0, s_b1, s_b2, s_b3, s_b4, s_b5, s_b6, s_x0, s_x0l, s_t1, s_nm, s_ckT, s_ld, s_st, s_clamp, nI_add, pk_mul, s_sub, s_nad, s_div, s_mod, s_rem2, s_le_t, s_le_f, s_lt_t, s_lt_f, s_eq_t, s_eq_f, s_n1, s_n2, s_n3, s_n4, s_n5, s_n6, s_n7, s_n8, s_n9, s_n10, s_n11, s_n12, s_us, s_un, s_uLs, s_uLn, ↓reduceIte, not_false_eq_true, not_true_eq_false, true_and, and_true, and_self, or_false, false_or, or_self, true_or, or_true, false_and, and_false, Int32.neg_neg, Nat.add_zero, Nat.zero_add, Nat.reduceSub, Nat.reduceAdd, Nat.reduceMul, Nat.reduceLeDiff, r_ofN, r_setN, f5]
    · refine ⟨fun m h2 h3 h4 h5 h6 => ?_, ?_, ?_, ?_, ?_, ?_⟩
      · rw [pk_un h5]
      · simp (disch := omega) only [s_lit, s_b0, s_b1, s_b2, s_b3, s_b4, s_b5, s_b6, s_x0, s_x0l, s_t1, s_nm, s_ckT, s_ld, s_st, s_clamp, nI_add, pk_mul, s_sub, s_nad, s_div, s_mod, s_rem2, s_le_t, s_le_f, s_lt_t, s_lt_f, s_eq_t, s_eq_f, s_n1, s_n2, s_n3, s_n4, s_n5, s_n6, s_n7, s_n8, s_n9, s_n10, s_n11, s_n12, s_us, s_un, s_uLs, s_uLn, ↓reduceIte, not_false_eq_true, not_true_eq_false, true_and, and_true, and_self, or_false, false_or, or_self, true_or, or_true, false_and, and_false, Int32.neg_neg, Nat.add_zero, Nat.zero_add, Nat.reduceSub, Nat.reduceAdd, Nat.reduceMul, Nat.reduceLeDiff, f2]
      · simp (disch := omega) only [s_lit, s_b0, s_b1, s_b2, s_b3, s_b4, s_b5, s_b6, s_x0, s_x0l, s_t1, s_nm, s_ckT, s_ld, s_st, s_clamp, nI_add, pk_mul, s_sub, s_nad, s_div, s_mod, s_rem2, s_le_t, s_le_f, s_lt_t, s_lt_f, s_eq_t, s_eq_f, s_n1, s_n2, s_n3, s_n4, s_n5, s_n6, s_n7, s_n8, s_n9, s_n10, s_n11, s_n12, s_us, s_un, s_uLs, s_uLn, ↓reduceIte, not_false_eq_true, not_true_eq_false, true_and, and_true, and_self, or_false, false_or, or_self, true_or, or_true, false_and, and_false, Int32.neg_neg, Nat.add_zero, Nat.zero_add, Nat.reduceSub, Nat.reduceAdd, Nat.reduceMul, Nat.reduceLeDiff]
      · simp (disch := omega) only [s_lit, s_b0, s_b1, s_b2, s_b3, s_b4, s_b5, s_b6, s_x0, s_x0l, s_t1, s_nm, s_ckT, s_ld, s_st, s_clamp, nI_add, pk_mul, s_sub, s_nad, s_div, s_mod, s_rem2, s_le_t, s_le_f, s_lt_t, s_lt_f, s_eq_t, s_eq_f, s_n1, s_n2, s_n3, s_n4, s_n5, s_n6, s_n7, s_n8, s_n9, s_n10, s_n11, s_n12, s_us, s_un, s_uLs, s_uLn, ↓reduceIte, not_false_eq_true, not_true_eq_false, true_and, and_true, and_self, or_false, false_or, or_self, true_or, or_true, false_and, and_false, Int32.neg_neg, Nat.add_zero, Nat.zero_add, Nat.reduceSub, Nat.reduceAdd, Nat.reduceMul, Nat.reduceLeDiff, f4]
      · simp (disch := omega) only [s_lit, s_b0, s_b1, s_b2, s_b3, s_b4, s_b5, s_b6, s_x0, s_x0l, s_t1, s_nm, s_ckT, s_ld, s_st, s_clamp, nI_add, pk_mul, s_sub, s_nad, s_div, s_mod, s_rem2, s_le_t, s_le_f, s_lt_t, s_lt_f, s_eq_t, s_eq_f, s_n1, s_n2, s_n3, s_n4, s_n5, s_n6, s_n7, s_n8, s_n9, s_n10, s_n11, s_n12, s_us, s_un, s_uLs, s_uLn, ↓reduceIte, not_false_eq_true, not_true_eq_false, true_and, and_true, and_self, or_false, false_or, or_self, true_or, or_true, false_and, and_false, Int32.neg_neg, Nat.add_zero, Nat.zero_add, Nat.reduceSub, Nat.reduceAdd, Nat.reduceMul, Nat.reduceLeDiff]
      · simp (disch := omega) only [s_lit, s_b0, s_b1, s_b2, s_b3, s_b4, s_b5, s_b6, s_x0, s_x0l, s_t1, s_nm, s_ckT, s_ld, s_st, s_clamp, nI_add, pk_mul, s_sub, s_nad, s_div, s_mod, s_rem2, s_le_t, s_le_f, s_lt_t, s_lt_f, s_eq_t, s_eq_f, s_n1, s_n2, s_n3, s_n4, s_n5, s_n6, s_n7, s_n8, s_n9, s_n10, s_n11, s_n12, s_us, s_un, s_uLs, s_uLn, ↓reduceIte, not_false_eq_true, not_true_eq_false, true_and, and_true, and_self, or_false, false_or, or_self, true_or, or_true, false_and, and_false, Int32.neg_neg, Nat.add_zero, Nat.zero_add, Nat.reduceSub, Nat.reduceAdd, Nat.reduceMul, Nat.reduceLeDiff]
