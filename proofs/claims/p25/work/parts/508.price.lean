/-! NUMBERS: the price: the law's tree against the class' stack -/
theorem X8_lim_R (v : Int64) : X7_limited v = some (X8_lim v) := by
  have a1 : ((1000000 : Int64)).toInt = 1000000 := by decide +kernel
  have a2 : ((-1000000 : Int64)).toInt = -1000000 := by decide +kernel
  have hb : -1000000 ≤ (X8_lim v).toInt ∧ (X8_lim v).toInt ≤ 1000000 := by
    unfold X8_lim
    by_cases c1 : v < 1000000
    · rw [if_pos c1]
      by_cases c2 : v < -1000000
      · rw [if_pos c2, a2]; omega
      · rw [if_neg c2]
        have h1 := Int64.lt_iff_toInt_lt.mp c1
        have h2 : ¬ v.toInt < (-1000000 : Int64).toInt := fun q => c2 (Int64.lt_iff_toInt_lt.mpr q)
        rw [a1] at h1
        rw [a2] at h2
        omega
    · rw [if_neg c1, if_neg (show ¬ (1000000 : Int64) < -1000000 by decide +kernel), a1]; omega
  have e1 : limC v (-1000000) 1000000 = (X8_lim v).toInt32 := by
    unfold limC X8_lim
    rw [show (1000000 : Int32).toInt64 = (1000000 : Int64) by decide +kernel, show (-1000000 : Int32).toInt64 = (-1000000 : Int64) by decide +kernel]
  rw [limC_R, e1, i64_rt (by omega) (by omega)]
theorem oper_X8 {k : Nat} (h2 : 2 ≤ k) (h5 : k ≤ 5) (x y : Int64) : X7_operate (nI k) x y = some (X8_lim (X8_op k x y)) := by
  unfold X7_operate X7_operate_J47
  rcases (show k = 2 ∨ k = 3 ∨ k = 4 ∨ k = 5 by omega) with e | e | e | e <;> subst e
  · rw [if_neg (show ¬ nI 2 = (5 : Int32) by decide), if_pos (show nI 2 = (2 : Int32) from rfl), X8_lim_R]; rfl
  · rw [if_neg (show ¬ nI 3 = (5 : Int32) by decide), if_neg (show ¬ nI 3 = (2 : Int32) by decide), if_pos (show nI 3 = (3 : Int32) from rfl), X8_lim_R]; rfl
  · rw [if_neg (show ¬ nI 4 = (5 : Int32) by decide), if_neg (show ¬ nI 4 = (2 : Int32) by decide), if_neg (show ¬ nI 4 = (3 : Int32) by decide), X8_lim_R]; rfl
  · rw [if_pos (show nI 5 = (5 : Int32) from rfl)]
    have e : X8_op 5 x y = if y = 0 then 0 else x / y := rfl
    rw [e]
    by_cases hy : y = 0
    · rw [if_pos ((lg_cmp_eq _ _).mpr hy), if_pos hy, show X8_lim 0 = 0 by decide +kernel]
    · rw [if_neg (fun q => hy ((lg_cmp_eq _ _).mp q)), q_ck hy, X8_lim_R, if_neg hy]; rfl
/-- the class' code of an operation -/
def opN (k : Nat) : Int32 := if k = 2 then -nI 43 else if k = 3 then -nI 45 else if k = 4 then -nI 42 else -nI 47
theorem opN_R {k : Nat} (h2 : 2 ≤ k) (h5 : k ≤ 5) : OpR (opN k) (nI k) := by
  rcases (show k = 2 ∨ k = 3 ∨ k = 4 ∨ k = 5 by omega) with e | e | e | e <;> subst e
  · exact Or.inl ⟨rfl, rfl⟩
  · exact Or.inr (Or.inl ⟨rfl, rfl⟩)
  · exact Or.inr (Or.inr (Or.inl ⟨rfl, rfl⟩))
  · exact Or.inr (Or.inr (Or.inr ⟨rfl, rfl⟩))
theorem OpR_of {c : Int32} {k : Nat} (h2 : 2 ≤ k) (h5 : k ≤ 5) (h : OpR c (nI k)) : c = opN k := by
  have ne : ∀ a : Nat, a ≤ 5 → nI k = nI a → k = a := fun a ha e => (nI_eq (by omega) (by omega)).mp e
  rcases h with ⟨e1, e2⟩ | ⟨e1, e2⟩ | ⟨e1, e2⟩ | ⟨e1, e2⟩
  · rw [e1, ne 2 (by decide) e2]; rfl
  · rw [e1, ne 3 (by decide) e2]; rfl
  · rw [e1, ne 4 (by decide) e2]; rfl
  · rw [e1, ne 5 (by decide) e2]; rfl
/-- the tree's value -/
def evT (K : Nat → Nat) (N : Nat → Int32) (vs : Nat → Int32) : Nat → Nat → Int32
  | 0, _ => 0
  | d + 1, i => if K i < 2 then (if K i = 0 then N i else vs (N i).toNatClampNeg) else comb (opN (K i)) (evT K N vs d (2 * i)) (evT K N vs d (2 * i + 1))
/-- a tree of that depth -/
def wfT (K : Nat → Nat) : Nat → Nat → Prop
  | 0, _ => False
  | d + 1, i => K i < 2 ∨ (wfT K d (2 * i) ∧ wfT K d (2 * i + 1))
theorem wfT_3 {K : Nat → Nat} (h : ndLeaf K) : wfT K 3 1 := by
  by_cases c1 : K 1 < 2
  · exact Or.inl c1
  · obtain ⟨h2, h3⟩ := h (by omega)
    refine Or.inr ⟨?_, ?_⟩
    · by_cases c2 : K 2 < 2
      · exact Or.inl c2
      · exact Or.inr ⟨Or.inl (h2 (by omega)).1, Or.inl (h2 (by omega)).2⟩
    · by_cases c3 : K 3 < 2
      · exact Or.inl c3
      · exact Or.inr ⟨Or.inl (h3 (by omega)).1, Or.inl (h3 (by omega)).2⟩
theorem x_value {G : LG} {va : Nat → Int64} {vs : Nat → Int32} (hG : ndG (shK G) (shN G)) (hv : ∀ j, j < 4 → va j = (vs j).toInt64) : ∀ d i, wfT (shK G) d i → X8_value G va d i = some (evT (shK G) (shN G) vs d i).toInt64
  | 0, _, h => h.elim
  | d + 1, i, h => by
    obtain ⟨h6, v, ev, hv1, hv4⟩ := hG i
    rw [X8_value, evT, q_ck h6]
    by_cases c : shK G i < 2
    · rw [if_pos c, if_pos c]
      by_cases c0 : shK G i = 0
      · rw [if_pos c0, if_pos c0]
      · have := hv4 c0
        rw [if_neg c0, if_neg c0, ev, s_ld this (by decide), nI_clamp (by omega), hv v this]
    · rw [if_neg c, if_neg c]
      have h := h.resolve_left c
      rw [x_value hG hv d _ h.1, x_value hG hv d _ h.2, q_bn1, q_bn1, s_nm]
      have e := oper_X8 (show 2 ≤ shK G i by omega) (show shK G i ≤ 5 by omega) (evT (shK G) (shN G) vs d (2 * i)).toInt64 (evT (shK G) (shN G) vs d (2 * i + 1)).toInt64
      exact e.symm.trans (comb_both (opN_R (by omega) (by omega)) _ _).2
theorem rOf_lt2 {codes : Nat → Int32} {i j : Nat} (h : rOf codes i < rOf codes j) : i < j := by
  by_cases c : i < j
  · exact c
  · rcases (show j = i ∨ j < i by omega) with e | e
    · rw [e] at h; omega
    · have := rOf_lt codes e; omega
theorem gD_l {l m : List Int32} {j : Nat} (h : j < l.length) : (l ++ m).getD j 0 = l.getD j 0 := by
  rw [List.getD_eq_getElem?_getD, List.getD_eq_getElem?_getD, List.getElem?_append_left h]
theorem gD_r {l m : List Int32} {j : Nat} (h : l.length ≤ j) : (l ++ m).getD j 0 = m.getD (j - l.length) 0 := by
  rw [List.getD_eq_getElem?_getD, List.getD_eq_getElem?_getD, List.getElem?_append_right h]
theorem hOf_le3 (codes : Nat → Int32) : ∀ i : Nat, hOf codes i ≤ rOf codes i
  | 0 => Nat.le_refl 0
  | i + 1 => by
    have h := hOf_le3 codes i
    by_cases c : opc (codes i) = true
    · rw [hOf_op c, rOf_op c]; omega
    · have c : opc (codes i) = false := by cases e : opc (codes i) <;> simp_all
      rw [hOf_no c, rOf_no c]; omega
theorem stk_tree {K : Nat → Nat} {N vs codes d8 : Nat → Int32} {sz : Nat} (hN : ndG K N) (hsz : rOf codes sz ≤ 11) (D : ∀ i, i < sz → CodeR (codes i) (d8 (643 + rOf codes i)) (d8 (643 + rOf codes i + 1))) : ∀ d i, wfT K d i → ∀ i0 o h, rOf codes i0 = o → hOf codes i0 = h → o + (pfx K N d i).length ≤ rOf codes sz → (∀ j, j < (pfx K N d i).length → d8 (643 + o + j) = (pfx K N d i).getD j 0) → h < 1000 →
    ∃ i1, rOf codes i1 = o + (pfx K N d i).length ∧ hOf codes i1 = h + 1 ∧ stk codes vs i1 h = evT K N vs d i ∧ ∀ j, j < h → stk codes vs i1 j = stk codes vs i0 j
  | 0, _, w => w.elim
  | d + 1, i, w => by
    intro i0 o h e1 e2 hlen hd hh
    obtain ⟨h6, v, ev, hv1, hv4⟩ := hN i
    rw [pfx] at hlen hd ⊢
    rw [evT]
    by_cases c : K i < 2
    · rw [if_pos c] at hlen hd ⊢
      rw [if_pos c]
      have hlt : i0 < sz := rOf_lt2 (by rw [e1]; exact Nat.lt_of_lt_of_le (show o < o + [nI (K i), N i].length by show o < o + 2; omega) hlen)
      have D0 := D i0 hlt
      have q0 : d8 (643 + o) = nI (K i) := hd 0 (by show 0 < 2; decide)
      have q1 : d8 (643 + o + 1) = N i := hd 1 (by show 1 < 2; decide)
      rw [e1, q0, q1] at D0
      rcases D0 with ⟨-, D0⟩ | ⟨hop, D0⟩
      · obtain ⟨z, z1, z2, z3⟩ := OpR_d D0
        have := (nI_eq (by omega) (by omega)).mp z3
        omega
      · refine ⟨i0 + 1, by rw [rOf_no hop, e1]; rfl, by rw [hOf_no hop, e2], ?_, fun j hj => by rw [stk_no hop, e2, pk_un (by omega)]⟩
        rw [stk_no hop, e2, pk_us]
        rcases D0 with ⟨x, hx, ec, ed, en⟩ | ⟨x, hx, ec, ed, en⟩
        · have k0 : K i = 0 := (nI_eq (by omega) (by omega)).mp ed
          rw [if_pos k0, ec, opnd_v vs hx, en]
        · have k1 : K i = 1 := (nI_eq (by omega) (by omega)).mp ed
          rw [if_neg (by omega), ec, opnd_k vs x hx, en, nI_clamp (by omega)]
    · rw [if_neg c] at hlen hd ⊢
      rw [if_neg c]
      have w := w.resolve_left c
      obtain ⟨la, ela⟩ : ∃ z, z = (pfx K N d (2 * i)).length := ⟨_, rfl⟩
      obtain ⟨lb, elb⟩ : ∃ z, z = (pfx K N d (2 * i + 1)).length := ⟨_, rfl⟩
      have elen : (pfx K N d (2 * i) ++ pfx K N d (2 * i + 1) ++ [nI (K i)]).length = la + lb + 1 := by rw [List.length_append, List.length_append, ← ela, ← elb]; rfl
      rw [elen] at hlen hd ⊢
      obtain ⟨i1, r1, g1, s1, t1⟩ := stk_tree (vs := vs) hN hsz D d _ w.1 i0 o h e1 e2 (by rw [← ela]; omega) (fun j hj => by
        rw [hd j (by rw [ela]; omega), List.append_assoc, gD_l hj]) hh
      rw [← ela] at r1
      obtain ⟨i2, r2, g2, s2, t2⟩ := stk_tree (vs := vs) hN hsz D d _ w.2 i1 (o + la) (h + 1) r1 g1 (by rw [← elb]; omega) (fun j hj => by
        rw [show 643 + (o + la) + j = 643 + o + (la + j) by omega, hd (la + j) (by rw [elb]; omega), List.append_assoc, gD_r (by rw [← ela]; omega), ← ela, Nat.add_sub_cancel_left, gD_l hj]) (by
        have := hOf_le3 codes i1
        omega)
      rw [← elb] at r2
      have hlt : i2 < sz := rOf_lt2 (by rw [r2]; omega)
      have D0 := D i2 hlt
      have q0 : d8 (643 + (o + la + lb)) = nI (K i) := by
        rw [show 643 + (o + la + lb) = 643 + o + (la + lb) by omega, hd (la + lb) (by omega), gD_r (by rw [List.length_append, ← ela, ← elb]; omega), List.length_append, ← ela, ← elb, Nat.sub_self]
        rfl
      rw [r2, q0] at D0
      rcases D0 with ⟨hop, D0⟩ | ⟨-, ⟨x, hx, ec, ed, en⟩ | ⟨x, hx, ec, ed, en⟩⟩
      · have ec := OpR_of (by omega) (by omega) D0
        refine ⟨i2 + 1, by rw [rOf_op hop, r2]; omega, by rw [hOf_op hop, g2]; omega, ?_, fun j hj => ?_⟩
        · rw [stk_op hop, g2, show h + 1 + 1 - 2 = h by omega, show h + 1 + 1 - 1 = h + 1 by omega, pk_us, t2 h (by omega), s1, s2, ec]
        · rw [stk_op hop, g2, show h + 1 + 1 - 2 = h by omega, pk_un (by omega), t2 j (by omega), t1 j hj]
      · exact absurd ((nI_eq (by omega) (by omega)).mp ed) (by omega)
      · exact absurd ((nI_eq (by omega) (by omega)).mp ed) (by omega)
theorem stk_all {K : Nat → Nat} {N vs codes d8 : Nat → Int32} {sz : Nat} (hN : ndG K N) (hl : ndLeaf K) (e9 : rOf codes sz = (pfx K N 3 1).length) (D : ∀ i, i < sz → CodeR (codes i) (d8 (643 + rOf codes i)) (d8 (643 + rOf codes i + 1))) (hd : ∀ j, j < (pfx K N 3 1).length → d8 (643 + j) = (pfx K N 3 1).getD j 0) : stk codes vs sz 0 = evT K N vs 3 1 := by
  have hlen := pfx_len K N 3 1
  obtain ⟨i1, r1, g1, s1, t1⟩ := stk_tree (vs := vs) hN (by rw [e9]; exact hlen) D 3 1 (wfT_3 hl) 0 0 0 rfl rfl (by rw [e9]; omega) hd (by decide)
  have e : i1 = sz := by
    rcases Nat.lt_trichotomy i1 sz with h | h | h
    · have := rOf_lt codes h; omega
    · exact h
    · have := rOf_lt codes h; omega
  rw [← e]; exact s1
