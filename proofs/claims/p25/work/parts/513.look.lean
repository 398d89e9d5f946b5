/-! NUMBERS: one tick's first half: the looks; a whole tick -/
section XT
variable {G : LG} {V HN LL sz : Nat} {hI rI : Int32} {holeY : Nat → Int32} {Pf Cf : Nat → Nat → Nat} {codes counts kinds depths d0 : Nat → Int32} {ti : Int32}
theorem x_tick1 (T : TCtx V HN LL sz hI rI holeY Pf Cf codes counts kinds depths d0) (A : LAsk G V HN LL hI rI holeY Pf Cf) : ∀ (fuel i : Nat) (lookers facts prices data : Nat → Int32) (stack : Nat → Int64) (fc : Nat → Int32) (va : Nat → Int64) (gg : Nat → Nat → Int32) (nc : Nat), V - i < fuel → i ≤ V → TRel V HN Pf d0 ti lookers facts prices data → GDr V gg data → nc + 3 * (V - i) ≤ 600 →
    ∃ l1 f1 p1 d1 s1 h1 va2 gg2 nc2, X7_tick_L2 fuel (nI i) data stack fc = X7_tick_L36 FU (nI 0) d1 s1 h1 ∧ X10_ticks_L10 G fuel (nI V) (nI i) va gg nc = X10_ticks_L124 G FU (nI V) (nI 0) va2 gg2 nc2 ∧ TRel V HN Pf d0 ti l1 f1 p1 d1 ∧ GDr V gg2 d1 ∧ nc2 ≤ nc + 3 * (V - i)
  | 0, i, _, _, _, _, _, _, _, _, _, h0, _, _, _, _ => absurd h0 (Nat.not_lt_zero _)
  | fuel + 1, i, lookers, facts, prices, data, stack, fc, va, gg, nc, h0, hi, I, D, hnc => by
    obtain ⟨aP, aC, aU, aL, ⟨z3, z4, iL⟩, hV, hH, hPC⟩ := id A
    have RA := T.2.1 data I.2.2.1
    have h7 : data 7 = nI V := RA.2.2.2.2.2.2
    rw [X7_tick_L2, X10_ticks_L10]
    by_cases e : i = V
    · subst e
      refine ⟨lookers, facts, prices, data, stack, fc, va, gg, nc, ?_, ?_, I, D, by omega⟩
      · rw [q_ld (i := (7 : Int32)) data 7 _ rfl (by omega) (by omega), h7]
        exact if_pos (nI_le (Nat.le_refl _) (by omega))
      · rw [if_pos (nI_le (Nat.le_refl _) (by omega)), s_nm, z4]; rfl
    · have hi' : i < V := by omega
      have R := I.2.1
      have d3' := R i hi' 3 (by decide)
      have g3 : gg i 3 = facts (i * 7 + 3) := (D i hi' 3 (by decide)).trans d3'
      rw [if_neg (nI_ge hi' (by omega)), z4, nI_clamp (show i < 2 ^ 31 by omega), q_ckw hi' (by omega), g3]
      by_cases w : facts (i * 7 + 3) = nI 1
      · obtain ⟨l1, f1, w1, p1, d1, s1, h1, k1, k2, k3, -⟩ := look_both T I hi' w (fun _ => 0) stack fc
        obtain ⟨-, ⟨q, hq, e1⟩, ⟨c, hc, e2⟩, -, hd⟩ := I.1.1 i hi'
        rcases hd with ⟨-, k, t, hk, e4, el, t1, t2, e5⟩ | ⟨hw, -⟩
        · obtain ⟨d9, s9, h9, b1, b2⟩ := r_look T.2.1 I.2.2.1 stack fc (show i < 20 by omega) hk hq hc (hPC k hk q hq).2 t1 t2 ((R i hi' 1 (by decide)).trans e1) ((R i hi' 2 (by decide)).trans e2) ((R i hi' 4 (by decide)).trans e4) ((R i hi' 5 (by decide)).trans e5)
          have e9 := b1.symm.trans k2
          simp only [Option.some.injEq, Prod.mk.injEq] at e9
          obtain ⟨ed, -, -⟩ := e9
          rw [ed] at b2
          have g1 : gg i 1 = nI q := (D i hi' 1 (by decide)).trans ((R i hi' 1 (by decide)).trans e1)
          have g2 : gg i 2 = nI c := (D i hi' 2 (by decide)).trans ((R i hi' 2 (by decide)).trans e2)
          have g4 : gg i 4 = nI k := (D i hi' 4 (by decide)).trans ((R i hi' 4 (by decide)).trans e4)
          have g5 : gg i 5 = nI t := (D i hi' 5 (by decide)).trans ((R i hi' 5 (by decide)).trans e5)
          have g6 : gg i 6 = data (503 + 7 * i + 6) := D i hi' 6 (by decide)
          have g33 : gg i 3 = data (503 + 7 * i + 3) := D i hi' 3 (by decide)
          have x7 : X7_tick_L2 (fuel + 1) (nI i) data stack fc = X7_tick_L2 fuel (nI (i + 1)) d1 s1 h1 := by
            rw [X7_tick_L2]
            simp (disch := omega) only [s_lit, s_b0, s_b1, s_b2, s_b3, s_b4, s_b5, s_b6, s_x0, s_x0l, s_t1, s_nm, s_ckT, s_ld, s_st, s_clamp, nI_add, pk_mul, s_sub, s_nad, s_div, s_mod, s_rem2, s_le_t, s_le_f, s_lt_t, s_lt_f, s_eq_t, s_eq_f, s_n1, s_n2, s_n3, s_n4, s_n5, s_n6, s_n7, s_n8, s_n9, s_n10, s_n11, s_n12, s_us, s_un, s_uLs, s_uLn, ↓reduceIte, not_false_eq_true, not_true_eq_false, true_and, and_true, and_self, or_false, false_or, or_self, true_or, or_true, false_and, and_false, Int32.neg_neg, Nat.add_zero, Nat.zero_add, Nat.reduceSub, Nat.reduceAdd, Nat.reduceMul, Nat.reduceLeDiff, h7, r_ofN, d3', w, k2, X7_tick_J28]
          have x7 := (X7_tick_L2.eq_2 _ _ _ _ _).symm.trans x7
          obtain ⟨b, eb⟩ : ∃ z : Nat → Nat → Int32, z = gset gg i 5 (nI (t - 1)) := ⟨_, rfl⟩
          have hb : ∀ j, j ≠ 5 → b i j = gg i j := fun j hj => by rw [eb, gs_same, if_neg hj]
          have hb5 : b i 5 = nI (t - 1) := by rw [eb, gs_same, if_pos rfl]
          have hbo : ∀ u, u ≠ i → b u = gg u := fun u hu => by rw [eb, gs_oth hu]
          rw [if_pos (show facts (i * 7 + 3) = 1 from w), s_nm, g5, show nI t - (1 : Int32) = nI (t - 1) from pk_sub (b := 1) t1, s_nm, ← eb, hb5]
          rcases b2 with ⟨t3, O⟩ | ⟨t3, O⟩
          · have D2 : GDr V b d1 := D.own O hi' hbo (hb 0 (by decide)) (hb 1 (by decide)) ((hb 2 (by decide)).trans g2) ((hb 3 (by decide)).trans g33) ((hb 4 (by decide)).trans g4) hb5 ((hb 6 (by decide)).trans g6)
            obtain ⟨l2, f2, p2, d2, s2, h2, va3, gg3, nc3, m1, m2, m3, m4, m5⟩ := x_tick1 T A fuel (i + 1) l1 f1 p1 d1 s1 h1 va b nc (by omega) (by omega) k3 D2 (by omega)
            refine ⟨l2, f2, p2, d2, s2, h2, va3, gg3, nc3, x7.trans m1, ?_, m3, m4, by omega⟩
            rw [if_neg (nI_nle (by omega) (by omega))]
            unfold X10_ticks_J108
            rw [s_nm, nI_1]
            exact m2
          · subst t3
            have hp := (hPC k hk q hq).2
            obtain ⟨va2, eP⟩ := aP k hk q hq b va
            rw [if_pos (show nI (1 - 1) ≤ 0 by decide), hb 1 (by decide), hb 4 (by decide), g1, g4, eP, bn2_s, q_ck (show nc + 3 ≤ 600 by omega), s_nm, hb 2 (by decide), g2, q_min (by omega) (by omega), s_nm, s_nm]
            obtain ⟨b6, eb6⟩ : ∃ z : Nat → Nat → Int32, z = gset b i 6 (nI (min (Pf k q) c)) := ⟨_, rfl⟩
            have h62 : b6 i 2 = nI c := by rw [eb6, gs_same, if_neg (by decide), hb 2 (by decide), g2]
            have h66 : b6 i 6 = nI (min (Pf k q) c) := by rw [eb6, gs_same, if_pos rfl]
            rw [← eb6, h62, h66, pk_sub (Nat.min_le_right _ _), s_nm, s_nm, s_nm, s_nm]
            obtain ⟨b9, eb9⟩ : ∃ z : Nat → Nat → Int32, z = gset (gset (gset b6 i 2 (nI (c - min (Pf k q) c))) i 3 (2 : Int32)) i 4 (-1 : Int32) := ⟨_, rfl⟩
            rw [← eb9]
            have h9o : ∀ u, u ≠ i → b9 u = gg u := fun u hu => by rw [eb9, gs_oth hu, gs_oth hu, gs_oth hu, eb6, gs_oth hu, hbo u hu]
            have D2 : GDr V b9 d1 := D.own O hi' h9o (by rw [eb9, gs_same, if_neg (by decide), gs_same, if_neg (by decide), gs_same, if_neg (by decide), eb6, gs_same, if_neg (by decide), hb 0 (by decide)]) (by rw [eb9, gs_same, if_neg (by decide), gs_same, if_neg (by decide), gs_same, if_neg (by decide), eb6, gs_same, if_neg (by decide), hb 1 (by decide)]) (by rw [eb9, gs_same, if_neg (by decide), gs_same, if_neg (by decide), gs_same, if_pos rfl]) (by rw [eb9, gs_same, if_neg (by decide), gs_same, if_pos rfl]; rfl) (by rw [eb9, gs_same, if_pos rfl]; rfl) (by rw [eb9, gs_same, if_neg (by decide), gs_same, if_neg (by decide), gs_same, if_neg (by decide), eb6, gs_same, if_neg (by decide), hb5]) (by rw [eb9, gs_same, if_neg (by decide), gs_same, if_neg (by decide), gs_same, if_neg (by decide), h66])
            obtain ⟨l2, f2, p2, d2, s2, h2, va3, gg3, nc3, m1, m2, m3, m4, m5⟩ := x_tick1 T A fuel (i + 1) l1 f1 p1 d1 s1 h1 va2 b9 (nc + 3) (by omega) (by omega) k3 D2 (by omega)
            refine ⟨l2, f2, p2, d2, s2, h2, va3, gg3, nc3, x7.trans m1, ?_, m3, m4, by omega⟩
            unfold X10_ticks_J108
            rw [s_nm, nI_1]
            exact m2
        · rcases hw with hw | hw | hw
          · exact absurd (hw.symm.trans w) ne01
          · exact absurd ((nI_eq (by decide) (by decide)).mp (hw.symm.trans w)) (by decide)
          · exact absurd ((nI_eq (by decide) (by decide)).mp (hw.symm.trans w)) (by decide)
      · obtain ⟨l2, f2, p2, d2, s2, h2, va3, gg3, nc3, m1, m2, m3, m4, m5⟩ := x_tick1 T A fuel (i + 1) lookers facts prices data stack fc va gg nc (by omega) (by omega) I D (by omega)
        refine ⟨l2, f2, p2, d2, s2, h2, va3, gg3, nc3, ?_, ?_, m3, m4, by omega⟩
        · simp (disch := omega) only [s_lit, s_b0, s_b1, s_b2, s_b3, s_b4, s_b5, s_b6, s_x0, s_x0l, s_t1, s_nm, s_ckT, s_ld, s_st, s_clamp, nI_add, pk_mul, s_sub, s_nad, s_div, s_mod, s_rem2, s_le_t, s_le_f, s_lt_t, s_lt_f, s_eq_t, s_eq_f, s_n1, s_n2, s_n3, s_n4, s_n5, s_n6, s_n7, s_n8, s_n9, s_n10, s_n11, s_n12, s_us, s_un, s_uLs, s_uLn, ↓reduceIte, not_false_eq_true, not_true_eq_false, true_and, and_true, and_self, or_false, false_or, or_self, true_or, or_true, false_and, and_false, Int32.neg_neg, Nat.add_zero, Nat.zero_add, Nat.reduceSub, Nat.reduceAdd, Nat.reduceMul, Nat.reduceLeDiff, h7, r_ofN, d3', w, X7_tick_J28]
          exact m1
        · rw [if_neg (show ¬ facts (i * 7 + 3) = 1 from w)]
          unfold X10_ticks_J108
          rw [s_nm, nI_1]
          exact m2
theorem x_tick (T : TCtx V HN LL sz hI rI holeY Pf Cf codes counts kinds depths d0) (A : LAsk G V HN LL hI rI holeY Pf Cf) {lookers facts prices data : Nat → Int32} (stack : Nat → Int64) (fc : Nat → Int32) (va : Nat → Int64) (I : TRel V HN Pf d0 ti lookers facts prices data) (D : GDr V (shG G) data) :
    ∃ l1 f1 p1 d1 s1 h1 va2 gg2, X7_tick data stack fc = some (d1, s1, h1) ∧ X10_ticks G va = some (va2, gg2) ∧ TRel V HN Pf d0 (ti + 1) l1 f1 p1 d1 ∧ GDr V gg2 d1 := by
  obtain ⟨-, -, -, -, ⟨z3, z4, iL⟩, hV, hH, hPC⟩ := id A
  obtain ⟨l1, f1, p1, d1, s1, h1, va2, gg2, nc2, k1, k2, k3, k4, k5⟩ := x_tick1 T A FU 0 lookers facts prices data stack fc va (shG G) 0 (by unfold FU; omega) (Nat.zero_le _) I D (by omega)
  obtain ⟨l2, f2, p2, d2, s2, h2, va3, gg3, m1, m2, m3, m4⟩ := x_tick2 T A FU 0 l1 f1 p1 d1 s1 h1 va2 gg2 nc2 (by unfold FU; omega) (Nat.zero_le _) k3 k4 (by omega)
  refine ⟨l2, f2, p2, d2, s2, h2, va3, gg3, k1.trans m1, ?_, m3, m4⟩
  unfold X10_ticks
  rw [s_nm, z4]
  exact k2.trans m2
end XT
