/-! NUMBERS: one tick of the law's show beside the reference's -/
def GDr (V : Nat) (gg : Nat → Nat → Int32) (data : Nat → Int32) : Prop := ∀ u, u < V → ∀ j, j < 7 → gg u j = data (503 + 7 * u + j)
theorem gs_same {g : Nat → Nat → Int32} {v a j : Nat} {x : Int32} : gset g v a x v j = if j = a then x else g v j := by
  unfold gset; rw [if_pos rfl]
theorem gs_oth {g : Nat → Nat → Int32} {v u a : Nat} {x : Int32} (h : u ≠ v) : gset g v a x u = g u := by
  unfold gset; exact if_neg h
theorem GDr.set {V v a : Nat} {gg : Nat → Nat → Int32} {data : Nat → Int32} (h : GDr V gg data) (x : Int32) (ha : a < 7) : GDr V (gset gg v a x) (upd data (503 + 7 * v + a) x) := by
  intro u hu j hj
  by_cases e : u = v
  · subst e
    rw [gs_same]
    by_cases e2 : j = a
    · subst e2; rw [if_pos rfl, pk_us]
    · rw [if_neg e2, pk_un (by omega)]; exact h u hu j hj
  · rw [gs_oth e, pk_un (by omega)]; exact h u hu j hj
theorem GDr.ch {V v LL : Nat} {gg : Nat → Nat → Int32} {data : Nat → Int32} (h : GDr V gg data) (z : Bool) (ob : Option Nat) : GDr V (chG gg v LL z ob) (chD data v LL z ob) := by
  cases ob with
  | some b => exact ((h.set (nI 1) (by decide)).set (nI b) (by decide)).set (nI LL) (by decide)
  | none =>
    cases z with
    | true => exact h
    | false => exact h.set (nI 3) (by decide)
theorem GDr.own {V v : Nat} {gg gg2 : Nat → Nat → Int32} {data d1 : Nat → Int32} {x2 x3 x4 x5 x6 : Int32} (h : GDr V gg data) (D : OwnD data d1 v x2 x3 x4 x5 x6) (hv : v < V) (ho : ∀ u, u ≠ v → gg2 u = gg u) (g0 : gg2 v 0 = gg v 0) (g1 : gg2 v 1 = gg v 1) (g2 : gg2 v 2 = x2) (g3 : gg2 v 3 = x3) (g4 : gg2 v 4 = x4) (g5 : gg2 v 5 = x5) (g6 : gg2 v 6 = x6) : GDr V gg2 d1 := by
  obtain ⟨o, e2, e3, e4, e5, e6⟩ := D
  intro u hu j hj
  by_cases e : u = v
  · subst e
    rcases (show j = 0 ∨ j = 1 ∨ j = 2 ∨ j = 3 ∨ j = 4 ∨ j = 5 ∨ j = 6 by omega) with e | e | e | e | e | e | e <;> subst e
    · rw [g0, o _ (by omega) (by omega) (by omega) (by omega) (by omega)]; exact h u hu 0 hj
    · rw [g1, o _ (by omega) (by omega) (by omega) (by omega) (by omega)]; exact h u hu 1 hj
    · rw [g2, e2]
    · rw [g3, e3]
    · rw [g4, e4]
    · rw [g5, e5]
    · rw [g6, e6]
  · rw [ho u e, o _ (by omega) (by omega) (by omega) (by omega) (by omega)]; exact h u hu j hj
section XT
variable {G : LG} {V HN LL sz : Nat} {hI rI : Int32} {holeY : Nat → Int32} {Pf Cf : Nat → Nat → Nat} {codes counts kinds depths d0 : Nat → Int32} {ti : Int32}
theorem x_tick2 (T : TCtx V HN LL sz hI rI holeY Pf Cf codes counts kinds depths d0) (A : LAsk G V HN LL hI rI holeY Pf Cf) : ∀ (fuel i : Nat) (lookers facts prices data : Nat → Int32) (stack : Nat → Int64) (fc : Nat → Int32) (va : Nat → Int64) (gg : Nat → Nat → Int32) (nc : Nat), V - i < fuel → i ≤ V → TRel V HN Pf d0 ti lookers facts prices data → GDr V gg data → nc + 20 * (V - i) ≤ 600 →
    ∃ l1 f1 p1 d1 s1 h1 va2 gg2, X7_tick_L36 fuel (nI i) data stack fc = some (d1, s1, h1) ∧ X10_ticks_L124 G fuel (nI V) (nI i) va gg nc = some (va2, gg2) ∧ TRel V HN Pf d0 (ti + 1) l1 f1 p1 d1 ∧ GDr V gg2 d1
  | 0, i, _, _, _, _, _, _, _, _, _, h0, _, _, _, _ => absurd h0 (Nat.not_lt_zero _)
  | fuel + 1, i, lookers, facts, prices, data, stack, fc, va, gg, nc, h0, hi, I, D, hnc => by
    obtain ⟨aP, aC, aU, aL, ⟨z3, z4, iL⟩, hV, hH, hPC⟩ := id A
    have RA := T.2.1 data I.2.2.1
    have h7 : data 7 = nI V := RA.2.2.2.2.2.2
    rw [X7_tick_L36, X10_ticks_L124]
    by_cases e : i = V
    · subst e
      obtain ⟨C, R, S, ht, P⟩ := I
      refine ⟨lookers, facts, prices, upd data 6 (ti + 1), stack, fc, va, gg, ?_, ?_, ⟨C, fun v hv k hk => ?_, fun j h1 h2 => ?_, pk_us, P⟩, fun u hu j hj => ?_⟩
      · simp (disch := omega) only [s_lit, s_b0, s_b1, s_b2, s_b3, s_b4, s_b5, s_b6, s_x0, s_x0l, s_t1, s_nm, s_ckT, s_ld, s_st, s_clamp, nI_add, pk_mul, s_sub, s_nad, s_div, s_mod, s_rem2, s_le_t, s_le_f, s_lt_t, s_lt_f, s_eq_t, s_eq_f, s_n1, s_n2, s_n3, s_n4, s_n5, s_n6, s_n7, s_n8, s_n9, s_n10, s_n11, s_n12, s_us, s_un, s_uLs, s_uLn, ↓reduceIte, not_false_eq_true, not_true_eq_false, true_and, and_true, and_self, or_false, false_or, or_self, true_or, or_true, false_and, and_false, Int32.neg_neg, Nat.add_zero, Nat.zero_add, Nat.reduceSub, Nat.reduceAdd, Nat.reduceMul, Nat.reduceLeDiff, h7, ht]
      · rw [if_pos (nI_le (Nat.le_refl _) (by omega)), s_nm]
      · rw [pk_un (by omega)]; exact R v hv k hk
      · rw [pk_un h2]; exact S j h1 h2
      · rw [pk_un (by omega)]; exact D u hu j hj
    · have hi' : i < V := by omega
      have R := I.2.1
      have d3' := R i hi' 3 (by decide)
      have g3 : gg i 3 = facts (i * 7 + 3) := (D i hi' 3 (by decide)).trans d3'
      have hg : ∀ u, u < V → ∀ j, j < 7 → gg u j = facts (u * 7 + j) := fun u hu j hj => (D u hu j hj).trans (R u hu j hj)
      rw [if_neg (nI_ge hi' (by omega)), z4, z3, nI_clamp (show i < 2 ^ 31 by omega), q_ckw hi' (by omega), g3]
      by_cases w : facts (i * 7 + 3) = nI 0
      · obtain ⟨l1, f1, w1, p1, d1, s1, h1, k1, k2, k3, -⟩ := choose_both T I hi' w (fun _ => 0) stack fc
        obtain ⟨-, ⟨q, hq, e1⟩, ⟨c, hc, e2⟩, -⟩ := I.1.1 i hi'
        obtain ⟨z, ob, s9, h9, b1, b2⟩ := r_chooseW RA hPC hV hH R I.1 hi' hq hc e1 e2 stack fc
        have e9 := b2.symm.trans k2
        simp only [Option.some.injEq, Prod.mk.injEq] at e9
        obtain ⟨ed, -, -⟩ := e9
        obtain ⟨z2, ob2, va2, nc2, c1, c2, c3⟩ := x_chooseB A hg I.1 hi' hq hc e1 e2 (fun z0 z1 z2 z3 z4 => X10_ticks_L124 G fuel z0 z1 z2 z3 z4) (nI V) FU HN false 0 none va nc (by unfold FU; omega) (Nat.le_refl _) ⟨⟨fun h => (by cases h), fun ⟨j, h, _⟩ => absurd h (by omega)⟩, fun j h => absurd h (by omega)⟩ ⟨fun h => (by cases h), fun h => absurd h (by decide)⟩ (by omega) (by omega)
        have ePP : (fun j => 0 ≤ j ∧ j < HN) = (fun j => j < HN) := funext fun j => propext ⟨fun h => h.2, fun h => ⟨Nat.zero_le _, h⟩⟩
        rw [ePP] at c1
        obtain ⟨ez, eo⟩ := b1.uniq c1
        rw [ez, eo] at c3
        have D2 : GDr V (chG gg i LL z ob) d1 := by rw [← ed]; exact D.ch z ob
        obtain ⟨l2, f2, p2, d2, s2, h2, va3, gg3, m1, m2, m3, m4⟩ := x_tick2 T A fuel (i + 1) l1 f1 p1 d1 s1 h1 va2 (chG gg i LL z ob) nc2 (by omega) (by omega) k3 D2 (by omega)
        refine ⟨l2, f2, p2, d2, s2, h2, va3, gg3, ?_, ?_, m3, m4⟩
        · simp (disch := omega) only [s_lit, s_b0, s_b1, s_b2, s_b3, s_b4, s_b5, s_b6, s_x0, s_x0l, s_t1, s_nm, s_ckT, s_ld, s_st, s_clamp, nI_add, pk_mul, s_sub, s_nad, s_div, s_mod, s_rem2, s_le_t, s_le_f, s_lt_t, s_lt_f, s_eq_t, s_eq_f, s_n1, s_n2, s_n3, s_n4, s_n5, s_n6, s_n7, s_n8, s_n9, s_n10, s_n11, s_n12, s_us, s_un, s_uLs, s_uLn, ↓reduceIte, not_false_eq_true, not_true_eq_false, true_and, and_true, and_self, or_false, false_or, or_self, true_or, or_true, false_and, and_false, Int32.neg_neg, Nat.add_zero, Nat.zero_add, Nat.reduceSub, Nat.reduceAdd, Nat.reduceMul, Nat.reduceLeDiff, h7, r_ofN, d3', w, k2, X7_tick_J61]
          exact m1
        · rw [if_pos (show facts (i * 7 + 3) = 0 from w), s_nm]
          exact c3.trans m2
      · obtain ⟨l2, f2, p2, d2, s2, h2, va3, gg3, m1, m2, m3, m4⟩ := x_tick2 T A fuel (i + 1) lookers facts prices data stack fc va gg nc (by omega) (by omega) I D (by omega)
        refine ⟨l2, f2, p2, d2, s2, h2, va3, gg3, ?_, ?_, m3, m4⟩
        · simp (disch := omega) only [s_lit, s_b0, s_b1, s_b2, s_b3, s_b4, s_b5, s_b6, s_x0, s_x0l, s_t1, s_nm, s_ckT, s_ld, s_st, s_clamp, nI_add, pk_mul, s_sub, s_nad, s_div, s_mod, s_rem2, s_le_t, s_le_f, s_lt_t, s_lt_f, s_eq_t, s_eq_f, s_n1, s_n2, s_n3, s_n4, s_n5, s_n6, s_n7, s_n8, s_n9, s_n10, s_n11, s_n12, s_us, s_un, s_uLs, s_uLn, ↓reduceIte, not_false_eq_true, not_true_eq_false, true_and, and_true, and_self, or_false, false_or, or_self, true_or, or_true, false_and, and_false, Int32.neg_neg, Nat.add_zero, Nat.zero_add, Nat.reduceSub, Nat.reduceAdd, Nat.reduceMul, Nat.reduceLeDiff, h7, r_ofN, d3', w, X7_tick_J61]
          exact m1
        · rw [if_neg (show ¬ facts (i * 7 + 3) = 0 from w)]
          unfold X10_ticks_J291
          rw [s_nm, nI_1]
          exact m2
end XT
