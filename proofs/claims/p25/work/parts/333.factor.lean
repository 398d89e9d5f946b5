/-! PHASE 2: the price of a setup text -/
/-- the codes that both sides have so far -/
def RX (sz : Nat) (codes d : Nat → Int32) : Prop := d 9 = nI (rOf codes sz) ∧ (∀ i, i < sz → CodeR (codes i) (d (643 + rOf codes i)) (d (643 + rOf codes i + 1))) ∧ ∀ i, i < sz → (opc (codes i) = true ∧ 2 ≤ hOf codes i) ∨ (opc (codes i) = false ∧ hOf codes i < 16)
theorem CodeR.congr {c a b a' b' : Int32} (h : CodeR c a b) (ha : a' = a) (hb : opc c = false → b' = b) : CodeR c a' b' := by
  rcases h with ⟨o, hr⟩ | ⟨o, hv⟩
  · exact Or.inl ⟨o, by rw [ha]; exact hr⟩
  · exact Or.inr ⟨o, by rw [ha, hb o]; exact hv⟩
theorem OpR_op {c d : Int32} (h : OpR c d) : opc c = true := by
  rcases h with ⟨e, -⟩ | ⟨e, -⟩ | ⟨e, -⟩ | ⟨e, -⟩ <;> rw [e] <;> decide +kernel
theorem RX.push {sz : Nat} {codes d d' : Nat → Int32} {c : Int32} (X : RX sz codes d) (hc : (opc c = true ∧ 2 ≤ hOf codes sz) ∨ (opc c = false ∧ hOf codes sz < 16)) (h9 : d' 9 = nI (rOf (upd codes sz c) (sz + 1))) (hd : ∀ j, j ≠ 9 → j < 643 + rOf codes sz → d' j = d j) (hn : CodeR c (d' (643 + rOf codes sz)) (d' (643 + rOf codes sz + 1))) : RX (sz + 1) (upd codes sz c) d' := by
  obtain ⟨x1, x2, x3⟩ := X
  have hcg : ∀ i, i ≤ sz → hOf (upd codes sz c) i = hOf codes i ∧ rOf (upd codes sz c) i = rOf codes i := fun i hi => hOf_congr i (fun j hj => pk_un (by omega))
  refine ⟨h9, fun i hi => ?_, fun i hi => ?_⟩
  · rw [(hcg i (by omega)).2]
    by_cases e : i = sz
    · rw [e, pk_us]; exact hn
    · rw [pk_un e]
      have hlt := rOf_lt codes (show i < sz by omega)
      refine (x2 i (by omega)).congr (hd _ (by omega) (by omega)) (fun o => ?_)
      have h3 : rOf codes (i + 1) ≤ rOf codes sz := by
        by_cases q : i + 1 = sz
        · rw [q]; exact Nat.le_refl _
        · exact Nat.le_of_lt (rOf_lt codes (by omega))
      rw [rOf_no o] at h3
      exact hd _ (by omega) (by omega)
  · rw [(hcg i (by omega)).1]
    by_cases e : i = sz
    · rw [e, pk_us]; exact hc
    · rw [pk_un e]; exact x3 i (by omega)
theorem r_emit {d : Nat → Int32} {r : Nat} {v : Int32} (h9 : d 9 = nI r) (hr : r < 1600) : X7_emit (nI 0) d v = some (upd (upd d (643 + r) v) 9 (nI (r + 1))) := by
  have hg : X7_isGood (nI 0) = some (nI 1) := rfl
  unfold X7_emit
  simp (disch := omega) only [s_lit, s_b0, s_b1, s_b2, s_b3, s_b4, s_b5, s_b6, s_x0, s_x0l, s_t1, s_nm, s_ckT, s_ld, s_st, s_clamp, nI_add, pk_mul, s_sub, s_nad, s_div, s_mod, s_rem2, s_le_t, s_le_f, s_lt_t, s_lt_f, s_eq_t, s_eq_f, s_n1, s_n2, s_n3, s_n4, s_n5, s_n6, s_n7, s_n8, s_n9, s_n10, s_n11, s_n12, s_us, s_un, s_uLs, s_uLn, ↓reduceIte, not_false_eq_true, not_true_eq_false, true_and, and_true, and_self, or_false, false_or, or_self, true_or, or_true, false_and, and_false, Int32.neg_neg, Nat.add_zero, Nat.zero_add, Nat.reduceSub, Nat.reduceAdd, Nat.reduceMul, Nat.reduceLeDiff, hg, h9]
theorem r_emitErr {k : Nat} (h2 : 2 ≤ k) (h6 : k ≤ 6) (d : Nat → Int32) (v : Int32) : X7_emit (-nI k) d v = some d := by
  unfold X7_emit
  rw [q_b1 (ne_err h2 h6), if_pos (show nI 0 = 0 from rfl)]
theorem q_add2 {sz : Nat} (codes : Nat → Int32) (c : Int32) (h : sz < 800) : X2_add (nI sz) codes c = some (nI (sz + 1), upd codes sz c) := by
  unfold X2_add
  simp (disch := omega) only [s_lit, s_b0, s_b1, s_b2, s_b3, s_b4, s_b5, s_b6, s_x0, s_x0l, s_t1, s_nm, s_ckT, s_ld, s_st, s_clamp, nI_add, pk_mul, s_sub, s_nad, s_div, s_mod, s_rem2, s_le_t, s_le_f, s_lt_t, s_lt_f, s_eq_t, s_eq_f, s_n1, s_n2, s_n3, s_n4, s_n5, s_n6, s_n7, s_n8, s_n9, s_n10, s_n11, s_n12, s_us, s_un, s_uLs, s_uLn, ↓reduceIte, not_false_eq_true, not_true_eq_false, true_and, and_true, and_self, or_false, false_or, or_self, true_or, or_true, false_and, and_false, Int32.neg_neg, Nat.add_zero, Nat.zero_add, Nat.reduceSub, Nat.reduceAdd, Nat.reduceMul, Nat.reduceLeDiff]
/-- an operation is put behind -/
theorem RX.op {sz : Nat} {codes d : Nat → Int32} {c v : Int32} (X : RX sz codes d) (h2 : 2 ≤ hOf codes sz) (ho : OpR c v) (hs : sz < 800) : ∃ d', X7_emit (nI 0) d v = some d' ∧ RX (sz + 1) (upd codes sz c) d' ∧ hOf (upd codes sz c) (sz + 1) = hOf codes sz - 1 ∧ ∀ j, j ≠ 9 → (j < 643 ∨ 2243 ≤ j) → d' j = d j := by
  have hr := rOf_le codes sz
  have hop := OpR_op ho
  have hcg := hOf_congr (c := codes) (c' := upd codes sz c) sz (fun j hj => pk_un (by omega))
  have hu : opc (upd codes sz c sz) = true := by rw [pk_us]; exact hop
  refine ⟨_, r_emit X.1 (by omega), X.push (Or.inl ⟨hop, h2⟩) ?_ (fun j h1 h2 => ?_) (Or.inl ⟨hop, ?_⟩), ?_, fun j h1 h2 => ?_⟩
  · rw [pk_us, rOf_op hu, hcg.2]
  · rw [pk_un h1, pk_un (by omega)]
  · rw [pk_un (by omega), pk_us]; exact ho
  · rw [hOf_op hu, hcg.1]
  · rw [pk_un h1, pk_un (by omega)]
/-- an operand is put behind -/
theorem RX.val {sz : Nat} {codes d : Nat → Int32} {c a b : Int32} (X : RX sz codes d) (h16 : hOf codes sz < 16) (ho : opc c = false) (hv : (∃ v, v ≤ 9999 ∧ c = nI v ∧ a = nI 0 ∧ b = nI v) ∨ ∃ k, k < 4 ∧ c = -nI (k + 1) ∧ a = nI 1 ∧ b = nI k) (hs : sz < 800) : ∃ d1 d', X7_emit (nI 0) d a = some d1 ∧ X7_emit (nI 0) d1 b = some d' ∧ RX (sz + 1) (upd codes sz c) d' ∧ hOf (upd codes sz c) (sz + 1) = hOf codes sz + 1 ∧ ∀ j, j ≠ 9 → (j < 643 ∨ 2243 ≤ j) → d' j = d j := by
  have hr := rOf_le codes sz
  have hcg := hOf_congr (c := codes) (c' := upd codes sz c) sz (fun j hj => pk_un (by omega))
  have hu : opc (upd codes sz c sz) = false := by rw [pk_us]; exact ho
  refine ⟨_, _, r_emit X.1 (by omega), r_emit (r := rOf codes sz + 1) pk_us (by omega), X.push (Or.inr ⟨ho, h16⟩) ?_ (fun j h1 h2 => ?_) (Or.inr ⟨ho, ?_⟩), ?_, fun j h1 h2 => ?_⟩
  · rw [pk_us, rOf_no hu, hcg.2]
  · rw [pk_un h1, pk_un (by omega), pk_un h1, pk_un (by omega)]
  · rw [pk_un (by omega), pk_un (by omega), pk_un (by omega), pk_us, pk_un (by omega), show 643 + rOf codes sz + 1 = 643 + (rOf codes sz + 1) by omega, pk_us]
    exact hv
  · rw [hOf_no hu, hcg.1]
  · rw [pk_un h1, pk_un (by omega), pk_un h1, pk_un (by omega)]
/-! the words -/
def wn_shown (i : Nat) : Nat := ([115, 104, 111, 119, 110] : List Nat).getD i 0
theorem w_shown : Word [115, 104, 111, 119, 110] 5 wn_shown := by
  refine ⟨by decide +kernel, by decide, fun i hi => ?_⟩
  rcases (show i = 0 ∨ i = 1 ∨ i = 2 ∨ i = 3 ∨ i = 4 by omega) with e | e | e | e | e <;> subst e <;> exact ⟨by decide +kernel, by decide, by decide⟩
def wn_kinds (i : Nat) : Nat := ([107, 105, 110, 100, 115] : List Nat).getD i 0
theorem w_kinds : Word [107, 105, 110, 100, 115] 5 wn_kinds := by
  refine ⟨by decide +kernel, by decide, fun i hi => ?_⟩
  rcases (show i = 0 ∨ i = 1 ∨ i = 2 ∨ i = 3 ∨ i = 4 by omega) with e | e | e | e | e <;> subst e <;> exact ⟨by decide +kernel, by decide, by decide⟩
def wn_depth (i : Nat) : Nat := ([100, 101, 112, 116, 104] : List Nat).getD i 0
theorem w_depth : Word [100, 101, 112, 116, 104] 5 wn_depth := by
  refine ⟨by decide +kernel, by decide, fun i hi => ?_⟩
  rcases (show i = 0 ∨ i = 1 ∨ i = 2 ∨ i = 3 ∨ i = 4 by omega) with e | e | e | e | e <;> subst e <;> exact ⟨by decide +kernel, by decide, by decide⟩
def wn_hole (i : Nat) : Nat := ([104, 111, 108, 101] : List Nat).getD i 0
theorem w_hole : Word [104, 111, 108, 101] 4 wn_hole := by
  refine ⟨by decide +kernel, by decide, fun i hi => ?_⟩
  rcases (show i = 0 ∨ i = 1 ∨ i = 2 ∨ i = 3 by omega) with e | e | e | e <;> subst e <;> exact ⟨by decide +kernel, by decide, by decide⟩
def wn_box (i : Nat) : Nat := ([98, 111, 120] : List Nat).getD i 0
theorem w_box : Word [98, 111, 120] 3 wn_box := by
  refine ⟨by decide +kernel, by decide, fun i hi => ?_⟩
  rcases (show i = 0 ∨ i = 1 ∨ i = 2 by omega) with e | e | e <;> subst e <;> exact ⟨by decide +kernel, by decide, by decide⟩
def wn_plane (i : Nat) : Nat := ([112, 108, 97, 110, 101] : List Nat).getD i 0
theorem w_plane : Word [112, 108, 97, 110, 101] 5 wn_plane := by
  refine ⟨by decide +kernel, by decide, fun i hi => ?_⟩
  rcases (show i = 0 ∨ i = 1 ∨ i = 2 ∨ i = 3 ∨ i = 4 by omega) with e | e | e | e | e <;> subst e <;> exact ⟨by decide +kernel, by decide, by decide⟩
def wn_reach (i : Nat) : Nat := ([114, 101, 97, 99, 104] : List Nat).getD i 0
theorem w_reach : Word [114, 101, 97, 99, 104] 5 wn_reach := by
  refine ⟨by decide +kernel, by decide, fun i hi => ?_⟩
  rcases (show i = 0 ∨ i = 1 ∨ i = 2 ∨ i = 3 ∨ i = 4 by omega) with e | e | e | e | e <;> subst e <;> exact ⟨by decide +kernel, by decide, by decide⟩
def wn_length (i : Nat) : Nat := ([108, 101, 110, 103, 116, 104] : List Nat).getD i 0
theorem w_length : Word [108, 101, 110, 103, 116, 104] 6 wn_length := by
  refine ⟨by decide +kernel, by decide, fun i hi => ?_⟩
  rcases (show i = 0 ∨ i = 1 ∨ i = 2 ∨ i = 3 ∨ i = 4 ∨ i = 5 by omega) with e | e | e | e | e | e <;> subst e <;> exact ⟨by decide +kernel, by decide, by decide⟩
def wn_viewer (i : Nat) : Nat := ([118, 105, 101, 119, 101, 114] : List Nat).getD i 0
theorem w_viewer : Word [118, 105, 101, 119, 101, 114] 6 wn_viewer := by
  refine ⟨by decide +kernel, by decide, fun i hi => ?_⟩
  rcases (show i = 0 ∨ i = 1 ∨ i = 2 ∨ i = 3 ∨ i = 4 ∨ i = 5 by omega) with e | e | e | e | e | e <;> subst e <;> exact ⟨by decide +kernel, by decide, by decide⟩
def wn_price (i : Nat) : Nat := ([112, 114, 105, 99, 101] : List Nat).getD i 0
theorem w_price : Word [112, 114, 105, 99, 101] 5 wn_price := by
  refine ⟨by decide +kernel, by decide, fun i hi => ?_⟩
  rcases (show i = 0 ∨ i = 1 ∨ i = 2 ∨ i = 3 ∨ i = 4 by omega) with e | e | e | e | e <;> subst e <;> exact ⟨by decide +kernel, by decide, by decide⟩
section PRC
variable {E : Nat} {bytes buffer : Nat → Int32} {tx : Nat → Nat}
/-- where no letter stands no word begins -/
theorem t_wordNo {ws : List Int32} {len : Nat} {wn : Nat → Nat} (W : Word ws len wn) (h0 : 0 < len) (T : Txt E bytes buffer tx) {p : Nat} (hp : p < E) (hl : ltB (tx p) = false) : X3_takesWord ws (nI E) (nI p) bytes = some (nI 0, nI p) := by
  have hE := T.1
  obtain ⟨w1, w2, w3⟩ := W
  obtain ⟨c1, c2, c3⟩ := w3 0 h0
  unfold X3_takesWord
  rw [q_b1 w1, q_nm, nI_add]
  by_cases c : p + len ≤ E
  · have hne : ¬ bytes p = nI (wn 0) := by
      rw [b_eq T hp (by omega)]
      intro q
      rw [q] at hl
      unfold ltB at hl
      exact absurd ⟨c2, c3⟩ (of_decide_eq_false hl)
    rw [if_pos (nI_le c (by omega)), show FU = 999999 + 1 from rfl, X3_takesWord_L22]
    simp (disch := omega) only [s_lit, s_b0, s_b1, s_b2, s_b3, s_b4, s_b5, s_b6, s_x0, s_x0l, s_t1, s_nm, s_ckT, s_ld, s_st, s_clamp, nI_add, pk_mul, s_sub, s_nad, s_div, s_mod, s_rem2, s_le_t, s_le_f, s_lt_t, s_lt_f, s_eq_t, s_eq_f, s_n1, s_n2, s_n3, s_n4, s_n5, s_n6, s_n7, s_n8, s_n9, s_n10, s_n11, s_n12, s_us, s_un, s_uLs, s_uLn, ↓reduceIte, not_false_eq_true, not_true_eq_false, true_and, and_true, and_self, or_false, false_or, or_self, true_or, or_true, false_and, and_false, Int32.neg_neg, Nat.add_zero, Nat.zero_add, Nat.reduceSub, Nat.reduceAdd, Nat.reduceMul, Nat.reduceLeDiff, w1, c1, hne]
  · exact if_neg (nI_ge (by omega) (by omega))
theorem r_expectErr {k : Nat} (h2 : 2 ≤ k) (h6 : k ≤ 6) (E o ea c : Int32) : X7_expect E o (-nI k) ea buffer c = some (o, -nI k, ea) := by
  unfold X7_expect
  rw [q_b1 (ne_err h2 h6), if_pos (show nI 0 = 0 from rfl)]
theorem r_numberErr {k : Nat} (h2 : 2 ≤ k) (h6 : k ≤ 6) (E o ea ns lo hi : Int32) : X7_number E o (-nI k) ea ns buffer lo hi = some (0, o, -nI k, ea, ns) := by
  unfold X7_number
  rw [q_b1 (ne_err h2 h6), if_pos (show nI 0 = 0 from rfl)]
theorem r_factorErr {k : Nat} (h2 : 2 ≤ k) (h6 : k ≤ 6) (rs : Int32 → Int32 → Int32 → Int32 → Int32 → Int32 → (Nat → Int32) → (Nat → Int32) → Option (Int32 × Int32 × Int32 × Int32 × Int32 × (Nat → Int32))) (E o ea ns ne : Int32) (d : Nat → Int32) : X7_factor rs E o (-nI k) ea ns ne buffer d = some (o, -nI k, ea, ns, ne, d) := by
  unfold X7_factor
  rw [q_b1 (ne_err h2 h6), if_pos (show nI 0 = 0 from rfl)]
theorem r_termErr {k : Nat} (h2 : 2 ≤ k) (h6 : k ≤ 6) (f0 : Int32 → Int32 → Int32 → Int32 → Int32 → Int32 → (Nat → Int32) → (Nat → Int32) → Option (Int32 × Int32 × Int32 × Int32 × Int32 × (Nat → Int32))) (n : Nat) (E o ea ns ne : Int32) (d : Nat → Int32) : X7_term_L4 f0 E buffer (n + 1) o (-nI k) ea ns ne d = some (o, -nI k, ea, ns, ne, d) := by
  rw [X7_term_L4, q_b1 (ne_err h2 h6), if_pos (show nI 0 = 0 from rfl)]
theorem r_sumLErr {k : Nat} (h2 : 2 ≤ k) (h6 : k ≤ 6) (f0 : Int32 → Int32 → Int32 → Int32 → Int32 → Int32 → (Nat → Int32) → (Nat → Int32) → Option (Int32 × Int32 × Int32 × Int32 × Int32 × (Nat → Int32))) (n : Nat) (E o ea ns ne : Int32) (d : Nat → Int32) : X7_readSum_L4 f0 E buffer (n + 1) o (-nI k) ea ns ne d = some (o, -nI k, ea, ns, ne, d) := by
  rw [X7_readSum_L4, q_b1 (ne_err h2 h6), if_pos (show nI 0 = 0 from rfl)]
theorem r_sumErr {k : Nat} (h2 : 2 ≤ k) (h6 : k ≤ 6) (m : Nat) (E o ea ns ne : Int32) (d : Nat → Int32) : X7_readSum (m + 1) E o (-nI k) ea ns ne buffer d = some (o, -nI k, ea, ns, ne, d) := by
  rw [X7_readSum]
  unfold X7_readSum_b
  have h1 : X7_term (X7_factor (X7_readSum m)) E o (-nI k) ea ns ne buffer d = some (o, -nI k, ea, ns, ne, d) := by
    unfold X7_term
    rw [q_b6 (r_factorErr h2 h6 _ E o ea ns ne d), show FU = 999999 + 1 from rfl]
    exact r_termErr h2 h6 _ _ E o ea ns ne d
  rw [q_b6 h1, show FU = 999999 + 1 from rfl]
  exact r_sumLErr h2 h6 _ _ E o ea ns ne d
/-- what both sides have in the midst of a sum -/
def PS (E pend p sz : Nat) (codes d0 d : Nat → Int32) : Prop := p ≤ E ∧ sz + pend ≤ p ∧ RX sz codes d ∧ ∀ j, j ≠ 9 → (j < 643 ∨ 2243 ≤ j) → d j = d0 j
abbrev TyS := Int32 → Int32 → Int32 → Int32 → Int32 → Int32 → (Nat → Int32) → (Nat → Int32) → Int32 → Option (Int32 × Int32 × Int32 × Int32 × Int32 × Int32 × (Nat → Int32))
abbrev TyR := Int32 → Int32 → Int32 → Int32 → Int32 → Int32 → (Nat → Int32) → (Nat → Int32) → Option (Int32 × Int32 × Int32 × Int32 × Int32 × (Nat → Int32))
/-- both sides read a piece of a sum (a factor, a sum) and go on, or both tell the same error -/
def Piece (E : Nat) (bytes buffer : Nat → Int32) (d0 : Nat → Int32) (dd hm : Nat) (f : TyS) (g : TyR) : Prop :=
  ∀ (pend p sz : Nat) (codes d : Nat → Int32) (num ns : Int32), 0 < p → PS E pend p sz codes d0 d → hOf codes sz ≤ hm →
    (∃ p' sz' codes' d' num' ns', p < p' ∧ f (nI 0) (-nI 1) (nI E) (nI p) num (nI sz) codes bytes (nI dd) = some (nI 1, nI 0, -nI 1, nI p', num', nI sz', codes') ∧ g (nI E) (nI p) (nI 0) (-nI 1) ns (nI dd) buffer d = some (nI p', nI 0, -nI 1, ns', nI dd, d') ∧ PS E pend p' sz' codes' d0 d' ∧ hOf codes' sz' = hOf codes sz + 1) ∨
    ∃ k of a b c e a' b' c' e', 2 ≤ k ∧ k ≤ 6 ∧ f (nI 0) (-nI 1) (nI E) (nI p) num (nI sz) codes bytes (nI dd) = some (nI 0, -nI k, nI of, a, b, c, e) ∧ g (nI E) (nI p) (nI 0) (-nI 1) ns (nI dd) buffer d = some (a', -nI k, nI of, b', c', e')
theorem q_b7 {A0 A1 A2 A3 A4 A5 A6 β : Type} {x : Option (A0 × A1 × A2 × A3 × A4 × A5 × A6)} {a0 : A0} {a1 : A1} {a2 : A2} {a3 : A3} {a4 : A4} {a5 : A5} {a6 : A6} {k : A0 → A1 → A2 → A3 → A4 → A5 → A6 → Option β} (h : x = some (a0, a1, a2, a3, a4, a5, a6)) : bn7 x k = k a0 a1 a2 a3 a4 a5 a6 := by rw [h]; rfl
theorem t_factor (T : Txt E bytes buffer tx) {d0 : Nat → Int32} {dd m : Nat} (hdd : dd ≤ 4) (hS : dd < 4 → Piece E bytes buffer d0 (dd + 1) (2 * (dd + 1)) (X3_readSum (m + 1)) (X7_readSum (m + 1))) : Piece E bytes buffer d0 dd (2 * dd + 2) (X3_readFactor (X3_readSum (m + 1))) (X7_factor (X7_readSum (m + 1))) := by
  intro pend p sz codes d num ns p0 S hh
  obtain ⟨hp, hsz, X, out⟩ := S
  have hE := T.1
  have ha := t_ahead T hp
  have hk := t_peek T hp
  have h1 := sk_ge E tx p
  have h2 := sk_le (tx := tx) hp
  have hss := sk_sk E tx p
  have hg : X7_isGood (nI 0) = some (nI 1) := rfl
  have hn0 : ¬ nI 1 = 0 := by decide +kernel
  have hcd := (t_ch T (sk E tx p)).2.1
  unfold X3_readFactor X7_factor
  rw [q_b2 hk, q_b1 hg, if_neg hn0, q_b2 ha]
  by_cases par : chA E tx (sk E tx p) = nI 40
  · have hlt : sk E tx p < E := by
      apply Classical.byContradiction
      intro z
      rw [chA_out z] at par
      simp (disch := omega) only [s_n6] at par
    rw [par, if_pos (show nI 40 = (40 : Int32) from rfl), if_pos (show nI 40 = (40 : Int32) from rfl)]
    by_cases deep : dd = 4
    · subst deep
      refine Or.inr ⟨6, sk E tx p, nI (sk E tx p), num, nI sz, codes, nI (sk E tx p + 1), ns, nI 4, d, by omega, by omega, ?_, ?_⟩
      · simp (disch := omega) only [s_lit, s_b0, s_b1, s_b2, s_b3, s_b4, s_b5, s_b6, s_x0, s_x0l, s_t1, s_nm, s_ckT, s_ld, s_st, s_clamp, nI_add, pk_mul, s_sub, s_nad, s_div, s_mod, s_rem2, s_le_t, s_le_f, s_lt_t, s_lt_f, s_eq_t, s_eq_f, s_n1, s_n2, s_n3, s_n4, s_n5, s_n6, s_n7, s_n8, s_n9, s_n10, s_n11, s_n12, s_us, s_un, s_uLs, s_uLn, ↓reduceIte, not_false_eq_true, not_true_eq_false, true_and, and_true, and_self, or_false, false_or, or_self, true_or, or_true, false_and, and_false, Int32.neg_neg, Nat.add_zero, Nat.zero_add, Nat.reduceSub, Nat.reduceAdd, Nat.reduceMul, Nat.reduceLeDiff, X3_fail]
      · rw [if_pos (show nI 4 = (4 : Int32) from rfl), q_b2 (show X7_report (nI 0) (-nI 1) (-6) (nI (sk E tx p)) = some (-nI 6, nI (sk E tx p)) from rfl)]
        unfold X7_factor_J37
        rw [q_nm, q_nm, q_b6 (r_sumErr (k := 6) (by omega) (by omega) m _ _ _ _ _ _), q_b3 (r_expectErr (k := 6) (by omega) (by omega) _ _ _ _), q_nm, nI_1]
        rfl
    · have hd4 : dd < 4 := by omega
      rw [if_pos (show nI dd < (4 : Int32) from nI_lt (b := 4) hd4 (by omega)), if_neg (show ¬ nI dd = (4 : Int32) from fun z => deep (nI_inj (b := 4) (by omega) (by omega) z))]
      unfold X7_factor_J37
      rw [q_nm, q_nm, q_nm, nI_1, nI_1]
      rcases hS hd4 pend (sk E tx p + 1) sz codes d num ns (by omega) ⟨by omega, by omega, X, out⟩ (by omega) with ⟨p', sz', codes', d', num', ns', g1, g2, g3, ⟨g4, g5, g6, g7⟩, g8⟩ | ⟨k, of, a, b, c, e, a', b', c', e', g1, g2, g3, g4⟩
      · rw [q_b7 g2, q_b6 g3, if_neg hn0]
        rcases t_sign T g4 (c := 41) (by omega) with ⟨j1, j2, j3⟩ | ⟨j2, j3⟩
        · have h3 := sk_ge E tx p'
          rw [q_b4 (show X3_readSign (nI 0) (-nI 1) (nI E) (nI p') bytes 41 = _ from j2), q_b3 (show X7_expect (nI E) (nI p') (nI 0) (-nI 1) buffer 41 = _ from j3), if_neg hn0, q_nm]
          refine Or.inl ⟨sk E tx p' + 1, sz', codes', d', num', ns', by omega, rfl, ?_, ⟨by omega, by omega, g6, g7⟩, g8⟩
          rw [show nI (dd + 1) - 1 = nI dd from nI_pred dd]
        · rw [q_b4 (show X3_readSign (nI 0) (-nI 1) (nI E) (nI p') bytes 41 = _ from j2), q_b3 (show X7_expect (nI E) (nI p') (nI 0) (-nI 1) buffer 41 = _ from j3), if_pos (show nI 0 = 0 from rfl), q_nm]
          exact Or.inr ⟨2, _, _, _, _, _, _, _, _, _, by omega, by omega, rfl, rfl⟩
      · rw [q_b7 g3, q_b6 g4, if_pos (show nI 0 = 0 from rfl), q_b3 (r_expectErr g1 g2 _ _ _ _), q_nm]
        exact Or.inr ⟨k, of, _, _, _, _, _, _, _, _, g1, g2, rfl, rfl⟩
  · have hpar : ¬ chA E tx (sk E tx p) = (40 : Int32) := par
    rw [if_neg hpar, if_neg hpar, q_b1 hcd]
    -- a number, in the end
    have hnum : ∀ P : Prop, (∀ z1 z2, (bn5 (X3_readNumber (nI 0) (-nI 1) (nI E) (nI (sk E tx p)) num bytes (0 : Int32) (9999 : Int32)) fun r28 o29 o30 o31 o32 => if r28 = 0 then some ((0 : Int32), o29, o30, o31, o32, nI sz, codes) else X3_readFactor_J144 (X3_readSum (m + 1)) (nI E) (nI sz) codes bytes (nI dd) o32 o29 o30 o31 o32) = z1 → X7_factor_J142 (X7_readSum (m + 1)) (nI E) (nI 0) (-nI 1) ns (nI dd) buffer d (-1 : Int32) (nI (sk E tx p)) = z2 →
        ((∃ p' sz' codes' d' num' ns', p < p' ∧ z1 = some (nI 1, nI 0, -nI 1, nI p', num', nI sz', codes') ∧ z2 = some (nI p', nI 0, -nI 1, ns', nI dd, d') ∧ PS E pend p' sz' codes' d0 d' ∧ hOf codes' sz' = hOf codes sz + 1) ∨ ∃ k of a b c e a' b' c' e', 2 ≤ k ∧ k ≤ 6 ∧ z1 = some (nI 0, -nI k, nI of, a, b, c, e) ∧ z2 = some (a', -nI k, nI of, b', c', e')) → P) → P := by
      intro P hP
      refine hP _ _ rfl rfl ?_
      unfold X7_factor_J142
      rw [if_neg (show ¬ (0 : Int32) ≤ -1 by decide +kernel)]
      rcases t_number T h2 (lo := 0) (hi := 9999) (by omega) (by omega) num ns with ⟨v, p', v1, v2, v3, v4, v5, v6⟩ | ⟨k, of, a, m', r, b, s, k1, k2, k3, k4⟩
      · rw [q_b5 (show X3_readNumber (nI 0) (-nI 1) (nI E) (nI (sk E tx p)) num bytes 0 9999 = _ from v5), q_b5 (show X7_number (nI E) (nI (sk E tx p)) (nI 0) (-nI 1) ns buffer 0 9999 = _ from v6), if_neg hn0]
        obtain ⟨d1, d', e1, e2, e3, e4, e5⟩ := X.val (c := nI v) (a := nI 0) (b := nI v) (by omega) (opc_n v (by omega)) (Or.inl ⟨v, v2, rfl, rfl, rfl⟩) (by omega)
        unfold X3_readFactor_J144 X7_factor_J159
        rw [q_b2 (q_add2 codes (nI v) (by omega)), if_neg (show ¬ (0 : Int32) ≤ -1 by decide +kernel)]
        unfold X7_factor_J170
        rw [q_b1 (show X7_emit (nI 0) d 0 = _ from e1), q_b1 e2]
        exact Or.inl ⟨p', sz + 1, _, d', _, _, by omega, rfl, rfl, ⟨v4, by omega, e3, fun j q1 q2 => (e5 j q1 q2).trans (out j q1 q2)⟩, e4⟩
      · rw [q_b5 (show X3_readNumber (nI 0) (-nI 1) (nI E) (nI (sk E tx p)) num bytes 0 9999 = _ from k3), q_b5 (show X7_number (nI E) (nI (sk E tx p)) (nI 0) (-nI 1) ns buffer 0 9999 = _ from k4), if_pos (show nI 0 = 0 from rfl)]
        unfold X7_factor_J159
        rw [if_neg (show ¬ (0 : Int32) ≤ -1 by decide +kernel)]
        unfold X7_factor_J170
        rw [q_b1 (r_emitErr k1 k2 _ _), q_b1 (r_emitErr k1 k2 _ _)]
        exact Or.inr ⟨k, of, _, _, _, _, _, _, _, _, k1, k2, rfl, rfl⟩
    -- a variable
    have hvar : ∀ (q len : Nat), q < 4 → 0 < len → sk E tx p + len ≤ E → ∀ z1 z2, X3_readFactor_J144 (X3_readSum (m + 1)) (nI E) (nI sz) codes bytes (nI dd) (-nI (q + 1)) (nI 0) (-nI 1) (nI (sk E tx p + len)) num = z1 → X7_factor_J142 (X7_readSum (m + 1)) (nI E) (nI 0) (-nI 1) ns (nI dd) buffer d (nI q) (nI (sk E tx p + len)) = z2 →
        ∃ p' sz' codes' d' num' ns', p < p' ∧ z1 = some (nI 1, nI 0, -nI 1, nI p', num', nI sz', codes') ∧ z2 = some (nI p', nI 0, -nI 1, ns', nI dd, d') ∧ PS E pend p' sz' codes' d0 d' ∧ hOf codes' sz' = hOf codes sz + 1 := by
      intro q len hq hl hle z1 z2 hz1 hz2
      have hopc : opc (-nI (q + 1)) = false := decide_eq_false (by rw [s_n10 (by omega) (by omega)]; exact id)
      obtain ⟨d1, d', e1, e2, e3, e4, e5⟩ := X.val (c := -nI (q + 1)) (a := nI 1) (b := nI q) (by omega) hopc (Or.inr ⟨q, hq, rfl, rfl, rfl⟩) (by omega)
      refine ⟨sk E tx p + len, sz + 1, upd codes sz (-nI (q + 1)), d', num, ns, by omega, ?_, ?_, ⟨hle, by omega, e3, fun j q1 q2 => (e5 j q1 q2).trans (out j q1 q2)⟩, e4⟩
      · rw [← hz1]
        unfold X3_readFactor_J144
        rw [q_b2 (q_add2 codes _ (by omega))]
        rfl
      · rw [← hz2]
        unfold X7_factor_J142 X7_factor_J159 X7_factor_J170
        rw [if_pos (show (0 : Int32) ≤ nI q from nI_pos' (by omega)), if_pos (show (0 : Int32) ≤ nI q from nI_pos' (by omega)), q_b1 (show X7_emit (nI 0) d 1 = _ from e1), q_b1 e2]
    cases hd : chB E tx dgB (sk E tx p) with
    | true =>
      obtain ⟨hlt, hdt⟩ := chB_lt hd
      have hnl : ltB (tx (sk E tx p)) = false := by
        have := dgB_t hdt
        exact decide_eq_false (by omega)
      rw [q_b2 (t_wordNo w_shown (by omega) T hlt hnl), if_pos (show nI 0 = 0 from rfl), q_b2 (t_wordNo w_kinds (by omega) T hlt hnl), if_pos (show nI 0 = 0 from rfl), q_b2 (t_wordNo w_depth (by omega) T hlt hnl), if_pos (show nI 0 = 0 from rfl), q_b2 (t_wordNo w_hole (by omega) T hlt hnl), if_pos (show nI 0 = 0 from rfl), if_neg (show ¬ b01 true = 0 from hn0)]
      exact hnum _ (fun z1 z2 e1 e2 h => by rw [e1, e2]; exact h)
    | false =>
      rw [if_pos (show b01 false = 0 from rfl)]
      rcases t_word w_shown T h2 hss with ⟨g1, g2, g3⟩ | ⟨g1, g2⟩
      · rw [q_b2 g1, q_b2 g2, if_neg hn0, if_neg hn0]
        exact Or.inl (hvar 0 5 (by omega) (by omega) g3 _ _ rfl rfl)
      · rw [q_b2 g1, q_b2 g2, if_pos (show nI 0 = 0 from rfl), if_pos (show nI 0 = 0 from rfl)]
        rcases t_word w_kinds T h2 hss with ⟨g1, g2, g3⟩ | ⟨g1, g2⟩
        · rw [q_b2 g1, q_b2 g2, if_neg hn0, if_neg hn0]
          exact Or.inl (hvar 1 5 (by omega) (by omega) g3 _ _ rfl rfl)
        · rw [q_b2 g1, q_b2 g2, if_pos (show nI 0 = 0 from rfl), if_pos (show nI 0 = 0 from rfl)]
          rcases t_word w_depth T h2 hss with ⟨g1, g2, g3⟩ | ⟨g1, g2⟩
          · rw [q_b2 g1, q_b2 g2, if_neg hn0, if_neg hn0]
            exact Or.inl (hvar 2 5 (by omega) (by omega) g3 _ _ rfl rfl)
          · rw [q_b2 g1, q_b2 g2, if_pos (show nI 0 = 0 from rfl), if_pos (show nI 0 = 0 from rfl)]
            rcases t_word w_hole T h2 hss with ⟨g1, g2, g3⟩ | ⟨g1, g2⟩
            · rw [q_b2 g1, q_b2 g2, if_neg hn0, if_neg hn0]
              exact Or.inl (hvar 3 4 (by omega) (by omega) g3 _ _ rfl rfl)
            · rw [q_b2 g1, q_b2 g2, if_pos (show nI 0 = 0 from rfl), if_pos (show nI 0 = 0 from rfl)]
              exact hnum _ (fun z1 z2 e1 e2 h => by rw [e1, e2]; exact h)
end PRC
