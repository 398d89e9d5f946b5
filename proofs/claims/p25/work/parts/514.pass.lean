/-! NUMBERS: a pass (st3.py) -/
section XL
variable {G : LG} {w h n HN V LL rc sz : Nat} {pull hx hy : Nat → Nat} {cells pulls holeX holeY codes d : Nat → Int32} {ti : Int32} {lk fa : Nat → Int32}
theorem NG.up (M : NG G w h n HN V LL rc pull hx hy cells ti fa) {gg : Nat → Nat → Int32} {fa2 : Nat → Int32} (hg : ∀ u, u < V → ∀ j, j < 7 → gg u j = fa2 (u * 7 + j)) : NG (shUpG G gg) w h n HN V LL rc pull hx hy cells ti fa2 :=
  ⟨M.1, M.2.1, M.2.2.1, M.2.2.2.1, M.2.2.2.2.1, hg⟩
theorem NG.any (M : NG G w h n HN V LL rc pull hx hy cells ti fa) (gg : Nat → Nat → Int32) : NG (shUpG G gg) w h n HN V LL rc pull hx hy cells ti (fun m => gg (m / 7) (m % 7)) :=
  M.up (fun u hu j hj => by
    show gg u j = gg ((u * 7 + j) / 7) ((u * 7 + j) % 7)
    rw [show (u * 7 + j) / 7 = u by omega, show (u * 7 + j) % 7 = j by omega])
theorem x_canUse (M : NG G w h n HN V LL rc pull hx hy cells ti fa) (S : SBox w h n pull HN hx hy) {k : Nat} (hk : k < HN) (f : Nat → Int32) : X10_canUse G f (nI k) = some (useV (nI h) (nI rc) (nI (hy k)) (f 0)) := by
  have s4 := S.2.2.2.1
  unfold X10_canUse useV
  rw [M.1.2.2.2.1, q_ckv (vp_in_nI hk (by omega)), nI_clamp (show k < 2 ^ 31 by omega), q_ld _ 1 _ (show (1 : Int32) = nI 1 from rfl) (show 1 < 2 by decide) (by decide), (M.2.2.2.2.1 k hk).2, s_nm, s_nm, M.1.2.1, M.2.1.1]
  by_cases c : nI rc < (if 0 ≤ (f 0 - ((nI h - 1) - nI (hy k))) then (f 0 - ((nI h - 1) - nI (hy k))) else 0 - (f 0 - ((nI h - 1) - nI (hy k))))
  · rw [if_pos c, if_pos c]
  · rw [if_neg c, if_neg c]
theorem x_lask {t9 : Int32} {lk9 fa9 : Nat → Int32} (M : NG G w h n HN V LL rc pull hx hy cells ti fa) (N : ShowN w h n HN sz V LL rc pull hx hy cells pulls holeX holeY codes t9 lk9 fa9 d) (X : PX d G) : LAsk G V HN LL (nI h) (nI rc) holeY (PrB w h n cells pull hx hy sz codes) (fun k q => cnB w h (skB w h n cells pull (hx k) (hy k)) q) := by
  obtain ⟨⟨S, B, C, R⟩, ⟨P, Q⟩, ⟨b1, b2, b3, b4, b5⟩, -, I, VR⟩ := N
  have sH := S.2.2.2.1
  refine ⟨fun k hk q hq gg va => x_price (M.any gg) S B P Q X hk hq va, fun k hk q hq gg => x_shownQ (M.any gg) S B hk hq, fun k hk gg f => ?_, fun gg facts lookers hg I k hk => x_looker (M.up hg) b3 I hk sH, ⟨M.1.2.2.2.1, M.1.2.2.2.2, M.2.1.2.1⟩, b3, sH, fun k hk q hq => ⟨?_, (PPr_spec _ _ _).1⟩⟩
  · rw [(C.2 k hk).2]; exact x_canUse (M.any gg) S hk f
  · have h1 : w * h ≤ 12 * 8 := Nat.mul_le_mul S.1.2 S.2.1.2
    exact Nat.le_trans (cntN_le _ _) (by omega)
theorem DG_of (N : ShowN w h n HN sz V LL rc pull hx hy cells pulls holeX holeY codes ti lk fa d) (M : NG G w h n HN V LL rc pull hx hy cells ti fa) (X : PX d G) : DG d G := by
  obtain ⟨⟨S, B, C, R0, R1, R2, R3, R4, R5, R6⟩, -, ⟨b1, b2, b3, b4, b5⟩, ⟨d4, d5, d6, d7⟩, I, VR⟩ := N
  obtain ⟨⟨z0, z1, z2, z3, z4⟩, ⟨i0, i1, i2⟩, nP, nT, nH, nG⟩ := M
  obtain ⟨⟨sw0, sw⟩, ⟨sh0, sh⟩, ⟨sn0, sn⟩, sH, -, -⟩ := S
  unfold DG
  rw [z0, z1, z2, z3, z4]
  exact ⟨⟨R0, R1, R2, R3, d7⟩, ⟨sw, sh, sn, sH, b3⟩, ⟨d4.trans i0.symm, d5.trans i1.symm, d6.trans i2.symm⟩, fun p hp => (R4 p hp).trans (nP p hp).symm, fun p hp y hy => ⟨(nT p hp y hy).1, fun x hx => by rw [(nT p hp y hy).2 x hx, R5 p hp y hy x hx]⟩, fun k hk => ⟨(R6 k hk).1.trans (nH k hk).1.symm, (R6 k hk).2.trans (nH k hk).2.symm⟩, fun v hv j hj => (VR v hv j hj).trans (nG v hv j hj).symm, X⟩
/-- the ticks of a pass -/
theorem x_passL {t9 : Int32} {lk9 fa9 : Nat → Int32} {counts kinds depths d0 : Nat → Int32} (T : TCtx V HN LL sz (nI h) (nI rc) holeY (PrB w h n cells pull hx hy sz codes) (fun k q => cnB w h (skB w h n cells pull (hx k) (hy k)) q) codes counts kinds depths d0) (N : ShowN w h n HN sz V LL rc pull hx hy cells pulls holeX holeY codes t9 lk9 fa9 d0) (tk : Nat) (htk : tk ≤ 50) (had o ru : Int32) (r0 r1 r2 r3 r4 r5 r6 r7 : Nat → Int32) : ∀ (fuel i : Nat) (ti : Int32) (lk fa prices data : Nat → Int32) (stack : Nat → Int64) (fc : Nat → Int32) (va : Nat → Int64) (G : LG), tk - i < fuel → i ≤ tk → TRel V HN (PrB w h n cells pull hx hy sz codes) d0 ti lk fa prices data → NG G w h n HN V LL rc pull hx hy cells ti fa → PX d0 G →
    ∃ G2 va2 t1 l1 f1 p1 d1 s1 g1, TKs (tk - i) G va G2 va2 ∧ X7_pass_L41 (nI tk) fuel had (nI i) o ru data r0 r1 r2 r3 r4 r5 r6 r7 stack fc = some (paidI f1 V - had, o, ru, d1, r0, r1, r2, r3, r4, r5, r6, r7, s1, g1) ∧ TRel V HN (PrB w h n cells pull hx hy sz codes) d0 t1 l1 f1 p1 d1 ∧ NG G2 w h n HN V LL rc pull hx hy cells t1 f1 ∧ PX d0 G2
  | 0, i, _, _, _, _, _, _, _, _, _, h0, _, _, _, _ => absurd h0 (Nat.not_lt_zero _)
  | fuel + 1, i, ti, lk, fa, prices, data, stack, fc, va, G, h0, hi, I, M, X => by
    have hV := T.2.2.1
    have h7 : data 7 = nI V := (T.2.1 data I.2.2.1).2.2.2.2.2.2
    rw [X7_pass_L41]
    by_cases e : i = tk
    · subst e
      refine ⟨G, va, ti, lk, fa, prices, data, stack, fc, ?_, ?_, I, M, X⟩
      · rw [Nat.sub_self]; exact ⟨rfl, rfl⟩
      · rw [if_pos (nI_le (Nat.le_refl _) (by omega)), q_b1 (r_paidI hV h7 I.2.1)]
    · have D : GDr V (shG G) data := fun u hu j hj => (M.2.2.2.2.2 u hu j hj).trans (I.2.1 u hu j hj).symm
      obtain ⟨l1, f1, p1, d1, s1, g1, va1, gg1, k1, k2, k3, k4⟩ := x_tick T (x_lask M N X) stack fc va I D
      have M1 : NG (shTk G gg1) w h n HN V LL rc pull hx hy cells (ti + 1) f1 := ⟨M.1, ⟨M.2.1.1, M.2.1.2.1, by show shI G 2 + 1 = ti + 1; rw [M.2.1.2.2]⟩, M.2.2.1, M.2.2.2.1, M.2.2.2.2.1, fun u hu j hj => (k4 u hu j hj).trans (k3.2.1 u hu j hj)⟩
      obtain ⟨G2, va2, t2, l2, f2, p2, d2, s2, g2, j1, j2, j3, j4, j5⟩ := x_passL T N tk htk had o ru r0 r1 r2 r3 r4 r5 r6 r7 fuel (i + 1) (ti + 1) l1 f1 p1 d1 s1 g1 va1 (shTk G gg1) (by omega) (by omega) k3 M1 X
      refine ⟨G2, va2, t2, l2, f2, p2, d2, s2, g2, ?_, ?_, j3, j4, j5⟩
      · rw [show tk - i = (tk - (i + 1)) + 1 by omega]
        exact ⟨(va1, gg1), k2, j1⟩
      · rw [if_neg (nI_ge (show i < tk by omega) (by omega)), q_b3 k1]
        show X7_pass_L41 _ fuel _ (nI i + 1) _ _ _ _ _ _ _ _ _ _ _ _ _ = _
        rw [nI_1]; exact j2
end XL
theorem st_pass {st : St} {G : LG} {hs : Nat → LG} {k : Nat} (R : RQ st G hs k) {t : Nat} (va : Nat → Int64) (t1 : 1 ≤ t) (t4 : t ≤ 4) : ∃ G2 va2 st2 x y, TKs t G va G2 va2 ∧ X10_paid G = some x ∧ X10_paid G2 = some y ∧ OP_pass st (nI t) (y - x) st2 ∧ RQ st2 G2 (hpush G hs) (min (k + 1) 8) := by
  obtain ⟨rf, RA, D, hud, hk8, hfil, hh⟩ := R
  obtain ⟨w, h, n, HN, sz, V, LL, rc, pull, hx, hy, e1, e2, e3, e4, e5, e6, e7, e8, N, Vw, P⟩ := id RA.1
  have M := NG_of N D
  obtain ⟨z0, z1, z2, z3, z4⟩ := id M.1
  have hV : V ≤ 20 := N.2.2.1.2.2.1
  have I := TRel.start N P
  obtain ⟨q0, q1, q2, q3, q4, q5, q6, q7, hm, hq⟩ := r_remember (Rf.data rf) (Rf.h0 rf) (Rf.h1 rf) (Rf.h2 rf) (Rf.h3 rf) (Rf.h4 rf) (Rf.h5 rf) (Rf.h6 rf) (Rf.h7 rf) hk8
  obtain ⟨G2, va2, tt, l1, f1, p1, dd, s1, gg1, j1, j2, j3, j4, j5⟩ := x_passL (N.ctx Vw) N t (by omega) (paidI (Sh.facts (St.now st)) V) (nI 0) (nI (min (k + 1) 8)) q0 q1 q2 q3 q4 q5 q6 q7 FU 0 (Sh.time (St.now st)) (Sh.lookers (St.now st)) (Sh.facts (St.now st)) _ (Rf.data rf) (Rf.stack rf) (Rf.facts rf) va G (by unfold FU; omega) (Nat.zero_le _) I M D.2.2.2.2.2.2.2
  have hX : X7_pass 0 (nI k) (Rf.data rf) (Rf.h0 rf) (Rf.h1 rf) (Rf.h2 rf) (Rf.h3 rf) (Rf.h4 rf) (Rf.h5 rf) (Rf.h6 rf) (Rf.h7 rf) (Rf.stack rf) (Rf.facts rf) (nI t) = some (paidI f1 V - paidI (Sh.facts (St.now st)) V, nI 0, nI (min (k + 1) 8), dd, q0, q1, q2, q3, q4, q5, q6, q7, s1, gg1) := by
    unfold X7_pass
    rcases q_reqRange (nI t) 1 50 (by omega) (by omega) with ⟨a, b⟩ | ⟨tk, k1, k2, e, a, b⟩
    · exact absurd a (by unfold X6_requireRange; simp (disch := omega) only [s_lit, s_b0, s_b1, s_b2, s_b3, s_b4, s_b5, s_b6, s_x0, s_x0l, s_t1, s_nm, s_ckT, s_ld, s_st, s_clamp, nI_add, pk_mul, s_sub, s_nad, s_div, s_mod, s_rem2, s_le_t, s_le_f, s_lt_t, s_lt_f, s_eq_t, s_eq_f, s_n1, s_n2, s_n3, s_n4, s_n5, s_n6, s_n7, s_n8, s_n9, s_n10, s_n11, s_n12, s_us, s_un, s_uLs, s_uLn, ↓reduceIte, not_false_eq_true, not_true_eq_false, true_and, and_true, and_self, or_false, false_or, or_self, true_or, or_true, false_and, and_false, Int32.neg_neg, Nat.add_zero, Nat.zero_add, Nat.reduceSub, Nat.reduceAdd, Nat.reduceMul, Nat.reduceLeDiff]; exact fun z => by cases z)
    · rw [show (1 : Int32) = nI 1 from rfl, show (50 : Int32) = nI 50 from rfl, q_b1 b]
      show X7_pass_J21 _ _ _ _ _ _ _ _ _ _ _ _ _ (0 : Int32) (0 : Int32) = _
      unfold X7_pass_J21
      rw [q_b2 (show X7_fails (0 : Int32) (0 : Int32) 1 = some (0, 0) from rfl), if_pos rfl, q_b9 hm, q_b1 (r_paidI hV N.2.2.2.1.2.2.2 N.2.2.2.2.2)]
      exact j2
  have N2 := N.ticked j3
  have D2 : DG dd G2 := DG_of N2 j4 (j5.congr (fun j hj => j3.2.2.1 j (by omega) (by omega)) rfl rfl rfl)
  obtain ⟨np, hn, h9 | h9⟩ := f_pass RA (nI t) 0
  · obtain ⟨v9, c1, c2, c3, c4, c5, c6, c7, c8, c9, c10, c11, c12, c13, c14, c15, c16, c17, c18, c19, c20, c21, c22, c23, d2, d3, d4, d5, d6, d7, d8, d9, d10, d11, d12, d13, g1, g2, g3⟩ := h9
    rw [hud, hX] at g2
    simp only [Option.some.injEq, Prod.mk.injEq] at g2
    obtain ⟨rfl, -, rfl, rfl, rfl, rfl, rfl, rfl, rfl, rfl, rfl, rfl, rfl, rfl⟩ := g2
    exact ⟨G2, va2, _, _, _, j1, x_paid M hV, x_paid j4 hV, Or.inl ⟨np, _, c1, c2, c3, c4, c5, c6, c7, c8, c9, c10, c11, c12, c13, c14, c15, c16, c17, c18, c19, c20, c21, c22, c23, hn, g1, rfl, rfl⟩, _, g3, D2, rfl, Nat.min_le_right _ _, hfil, hist_push hk8 hq D hh⟩
  · obtain ⟨e9, t9, b, ht, g1, g2⟩ := h9
    rw [hud, hX] at g2
    simp only [Option.some.injEq, Prod.mk.injEq] at g2
    obtain ⟨-, ht9, -⟩ := g2
    have := (nI_eq (by decide) (by omega)).mp ht9
    omega
