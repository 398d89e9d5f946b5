/-! PHASE 2: the reading's loop -/
theorem q_b13 {A0 A1 A2 A3 A4 A5 A6 A7 A8 A9 A10 A11 A12 β : Type} {x : Option (A0 × A1 × A2 × A3 × A4 × A5 × A6 × A7 × A8 × A9 × A10 × A11 × A12)} {a0 : A0} {a1 : A1} {a2 : A2} {a3 : A3} {a4 : A4} {a5 : A5} {a6 : A6} {a7 : A7} {a8 : A8} {a9 : A9} {a10 : A10} {a11 : A11} {a12 : A12} {k : A0 → A1 → A2 → A3 → A4 → A5 → A6 → A7 → A8 → A9 → A10 → A11 → A12 → Option β} (h : x = some (a0, a1, a2, a3, a4, a5, a6, a7, a8, a9, a10, a11, a12)) : bn13 x k = k a0 a1 a2 a3 a4 a5 a6 a7 a8 a9 a10 a11 a12 := by rw [h]; rfl
theorem q_b19 {A0 A1 A2 A3 A4 A5 A6 A7 A8 A9 A10 A11 A12 A13 A14 A15 A16 A17 A18 β : Type} {x : Option (A0 × A1 × A2 × A3 × A4 × A5 × A6 × A7 × A8 × A9 × A10 × A11 × A12 × A13 × A14 × A15 × A16 × A17 × A18)} {a0 : A0} {a1 : A1} {a2 : A2} {a3 : A3} {a4 : A4} {a5 : A5} {a6 : A6} {a7 : A7} {a8 : A8} {a9 : A9} {a10 : A10} {a11 : A11} {a12 : A12} {a13 : A13} {a14 : A14} {a15 : A15} {a16 : A16} {a17 : A17} {a18 : A18} {k : A0 → A1 → A2 → A3 → A4 → A5 → A6 → A7 → A8 → A9 → A10 → A11 → A12 → A13 → A14 → A15 → A16 → A17 → A18 → Option β} (h : x = some (a0, a1, a2, a3, a4, a5, a6, a7, a8, a9, a10, a11, a12, a13, a14, a15, a16, a17, a18)) : bn19 x k = k a0 a1 a2 a3 a4 a5 a6 a7 a8 a9 a10 a11 a12 a13 a14 a15 a16 a17 a18 := by rw [h]; rfl
theorem q_b27 {A0 A1 A2 A3 A4 A5 A6 A7 A8 A9 A10 A11 A12 A13 A14 A15 A16 A17 A18 A19 A20 A21 A22 A23 A24 A25 A26 β : Type} {x : Option (A0 × A1 × A2 × A3 × A4 × A5 × A6 × A7 × A8 × A9 × A10 × A11 × A12 × A13 × A14 × A15 × A16 × A17 × A18 × A19 × A20 × A21 × A22 × A23 × A24 × A25 × A26)} {a0 : A0} {a1 : A1} {a2 : A2} {a3 : A3} {a4 : A4} {a5 : A5} {a6 : A6} {a7 : A7} {a8 : A8} {a9 : A9} {a10 : A10} {a11 : A11} {a12 : A12} {a13 : A13} {a14 : A14} {a15 : A15} {a16 : A16} {a17 : A17} {a18 : A18} {a19 : A19} {a20 : A20} {a21 : A21} {a22 : A22} {a23 : A23} {a24 : A24} {a25 : A25} {a26 : A26} {k : A0 → A1 → A2 → A3 → A4 → A5 → A6 → A7 → A8 → A9 → A10 → A11 → A12 → A13 → A14 → A15 → A16 → A17 → A18 → A19 → A20 → A21 → A22 → A23 → A24 → A25 → A26 → Option β} (h : x = some (a0, a1, a2, a3, a4, a5, a6, a7, a8, a9, a10, a11, a12, a13, a14, a15, a16, a17, a18, a19, a20, a21, a22, a23, a24, a25, a26)) : bn27 x k = k a0 a1 a2 a3 a4 a5 a6 a7 a8 a9 a10 a11 a12 a13 a14 a15 a16 a17 a18 a19 a20 a21 a22 a23 a24 a25 a26 := by rw [h]; rfl
theorem upd_id (d : Nat → Int32) {j : Nat} {v : Int32} (h : d j = v) : upd d j v = d := by
  funext k
  by_cases e : k = j
  · rw [e, pk_us, h]
  · exact pk_un e
theorem ne_mB {k : Nat} (h : k < 2 ^ 30) : ¬ nI k = (-1 : Int32) := fun e => by
  have h1 := congrArg Int32.toInt e
  rw [nI_toInt (by omega), show (-1 : Int32).toInt = -1 from by decide +kernel] at h1
  omega
/-- what the reading comes to, class and reference -/
def LoopR (E w h n : Nat) (pulls lk : Nat → Int32) (filled ud thr bl p1 : Int32) (buffer data r0 r1 r2 r3 r4 r5 r6 r7 : Nat → Int32) (c : Option (Int32 × Int32 × Int32 × Int32 × Int32 × Int32 × Int32 × Int32 × Int32 × Int32 × Int32 × Int32 × Int32 × Int32 × Int32 × Int32 × (Nat → Int32) × (Nat → Int32) × (Nat → Int32) × (Nat → Int32) × Int32 × (Nat → Int32) × Int32 × Int32 × Int32 × (Nat → Int32) × (Nat → Int32))) (r : Option (Int32 × Int32 × Int32 × Int32 × Int32 × Int32 × Int32 × Int32 × Int32 × Int32 × Int32 × Int32 × Int32 × (Nat → Int32) × (Nat → Int32) × (Nat → Int32) × (Nat → Int32) × (Nat → Int32) × (Nat → Int32) × (Nat → Int32) × (Nat → Int32) × (Nat → Int32) × (Nat → Int32))) : Prop :=
  (∃ (HN' rc' sz' V' LL' : Nat) (hx' hy' : Nat → Nat) (cells' holeX' holeY' codes' fa' d' : Nat → Int32) (a1 a2 a3 a4 a5 a6 b1 b2 b3 b4 b5 : Int32), 1 ≤ HN' ∧ c = some (nI 1, filled, nI 0, -nI 1, nI E, a1, a2, a3, a4, a5, a6, nI w, nI h, nI n, nI HN', nI rc', cells', pulls, holeX', holeY', nI sz', codes', nI V', nI LL', nI 0, lk, fa') ∧
    r = X7_load_J190 ud buffer data r0 r1 r2 r3 r4 r5 r6 r7 p1 thr bl (nI E) b1 (nI 0) (-nI 1) (-nI 1) b2 b3 b4 b5 d' ∧ DraftN w h n HN' sz' V' LL' rc' hx' hy' cells' pulls holeX' holeY' codes' lk fa' d') ∨
  ∃ (k of : Nat) (a1 a2 a3 a4 a5 a6 a7 a8 a9 : Int32) (a10 a11 a12 a13 a14 : Int32) (a15 a16 a17 a18 : Nat → Int32) (a19 : Int32) (a20 : Nat → Int32) (a21 a22 a23 : Int32) (a24 a25 : Nat → Int32) (b1 b2 b3 b4 b5 b6 : Int32) (d' : Nat → Int32), 2 ≤ k ∧ k ≤ 6 ∧ c = some (nI 0, filled, -nI k, nI of, a1, a2, a3, a4, a5, a6, a7, a8, a9, a10, a11, a12, a15, a16, a17, a18, a19, a20, a21, a22, a23, a24, a25) ∧
    r = some (-nI k, thr, bl, b1, b2, -nI k, nI of, nI of, ud, b3, b4, b5, b6, data, d', r0, r1, r2, r3, r4, r5, r6, r7)
section RD
variable {E : Nat} {bytes buffer data r0 r1 r2 r3 r4 r5 r6 r7 : Nat → Int32} {tx : Nat → Nat}
theorem t_endG {w h n HN sz V LL rc : Nat} {hx hy : Nat → Nat} {cells pulls holeX holeY codes : Nat → Int32} {lk fa d : Nat → Int32} (N : DraftN w h n HN sz V LL rc hx hy cells pulls holeX holeY codes lk fa d) (hz : HN = 0 → d 495 = nI 0 ∧ d 496 = nI 0) (filled at_ num pt f1 f2 f3 pos ns ne se to eo ud thr bl p1 p1' : Int32) :
    LoopR E w h n pulls lk filled ud thr bl p1' buffer data r0 r1 r2 r3 r4 r5 r6 r7 (X3_read_J60 bytes p1 (nI 1) filled (nI 0) (-nI 1) (nI E) at_ num pt f1 f2 f3 (nI w) (nI h) (nI n) (nI HN) (nI rc) cells pulls holeX holeY (nI sz) codes (nI V) (nI LL) (nI 0) lk fa)
      (X7_load_J154 eo ud buffer data r0 r1 r2 r3 r4 r5 r6 r7 p1' thr bl (nI E) pos (nI 0) (-nI 1) ns ne se to d) := by
  have hn0 : ¬ nI 1 = 0 := by decide +kernel
  have hg : X7_isGood (nI 0) = some (nI 1) := rfl
  have s1 := N.1.1.1
  have s2 := N.1.1.2.1
  have s4 := N.1.1.2.2.2.1
  have dH := N.1.2.2.2.2.2.2.1
  unfold X3_read_J60 X7_load_J154
  rw [if_neg hn0, q_b1 hg, if_neg hn0, q_ld (i := (3 : Int32)) d 3 _ rfl (by omega) (by omega), dH]
  by_cases e : HN = 0
  · subst e
    obtain ⟨z1, z2⟩ := hz rfl
    have ha : X0_addHole (nI 0) holeX holeY 0 0 = some (nI 1, upd holeX 0 (nI 0), upd holeY 0 (nI 0)) := by
      unfold X0_addHole
      simp (disch := omega) only [s_lit, s_b0, s_b1, s_b2, s_b3, s_b4, s_b5, s_b6, s_x0, s_x0l, s_t1, s_nm, s_ckT, s_ld, s_st, s_clamp, nI_add, pk_mul, s_sub, s_nad, s_div, s_mod, s_rem2, s_le_t, s_le_f, s_lt_t, s_lt_f, s_eq_t, s_eq_f, s_n1, s_n2, s_n3, s_n4, s_n5, s_n6, s_n7, s_n8, s_n9, s_n10, s_n11, s_n12, s_us, s_un, s_uLs, s_uLn, ↓reduceIte, not_false_eq_true, not_true_eq_false, true_and, and_true, and_self, or_false, false_or, or_self, true_or, or_true, false_and, and_false, Int32.neg_neg, Nat.add_zero, Nat.zero_add, Nat.reduceSub, Nat.reduceAdd, Nat.reduceMul, Nat.reduceLeDiff]
    have hd : upd (upd (upd d (495 + 2 * 0) (nI 0)) (495 + 2 * 0 + 1) (nI 0)) 3 (nI (0 + 1)) = upd d (Int32.toNatClampNeg 3) 1 := by
      rw [show 495 + 2 * 0 + 1 = 496 from rfl, show 495 + 2 * 0 = 495 from rfl, upd_id d z1, upd_id d z2, show Int32.toNatClampNeg 3 = 3 from by decide +kernel]
      rfl
    have M := N.hole (x := 0) (y := 0) s1.1 s2.1 (by omega)
    rw [hd] at M
    rw [if_pos (show nI 0 = 0 from rfl), if_pos (show nI 0 = 0 from rfl), q_b3 ha, q_ck1, q_st (i := (3 : Int32)) _ 3 _ rfl (by omega) (by omega)]
    exact Or.inl ⟨_, _, _, _, _, _, _, _, _, _, _, _, _, _, _, _, _, _, _, _, _, _, _, _, by omega, rfl, rfl, M⟩
  · have e0 : ¬ nI HN = 0 := fun z => e (nI_inj (b := 0) (by omega) (by omega) z)
    rw [if_neg e0, if_neg e0, q_ck1]
    exact Or.inl ⟨_, _, _, _, _, _, _, _, _, _, _, _, _, _, _, _, _, _, _, _, _, _, _, _, by omega, rfl, rfl, N⟩
theorem t_endB {k of w h n : Nat} {pulls lk : Nat → Int32} (k2 : 2 ≤ k) (k6 : k ≤ 6) (bytes : Nat → Int32) (filled p1 p1' ud eo thr bl b1 b2 b3 b4 b5 b6 : Int32) (a1 a2 a3 a4 a5 a6 a7 a8 a9 a10 a11 a12 : Int32) (a15 a16 a17 a18 : Nat → Int32) (a19 : Int32) (a20 : Nat → Int32) (a21 a22 a23 : Int32) (a24 a25 d : Nat → Int32) :
    LoopR E w h n pulls lk filled ud thr bl p1' buffer data r0 r1 r2 r3 r4 r5 r6 r7 (X3_read_J60 bytes p1 (nI 0) filled (-nI k) (nI of) a1 a2 a3 a4 a5 a6 a7 a8 a9 a10 a11 a12 a15 a16 a17 a18 a19 a20 a21 a22 a23 a24 a25)
      (X7_load_J154 eo ud buffer data r0 r1 r2 r3 r4 r5 r6 r7 p1' thr bl b1 b2 (-nI k) (nI of) b3 b4 b5 b6 d) := by
  unfold X3_read_J60 X7_load_J154
  rw [if_pos (show nI 0 = 0 from rfl), q_ck0, q_b1 (ne_err k2 k6), if_pos (show nI 0 = 0 from rfl)]
  exact Or.inr ⟨k, of, _, _, _, _, _, _, _, _, _, _, _, _, 0, 0, _, _, _, _, _, _, _, _, _, _, _, _, _, _, _, _, _, _, k2, k6, rfl, rfl⟩
/-- the next turn after an error -/
theorem t_stopC {k of w h n : Nat} {pulls lk : Nat → Int32} (k2 : 2 ≤ k) (k6 : k ≤ 6) (fuel fuel' : Nat) (bytes : Nat → Int32) (i filled p1 p1' ud eo thr bl b1 b2 b3 b4 b5 b6 : Int32) (a1 a2 a3 a4 a5 a6 a7 a8 a9 a10 a11 a12 : Int32) (a15 a16 a17 a18 : Nat → Int32) (a19 : Int32) (a20 : Nat → Int32) (a21 a22 a23 : Int32) (a24 a25 d : Nat → Int32) :
    LoopR E w h n pulls lk filled ud thr bl p1' buffer data r0 r1 r2 r3 r4 r5 r6 r7 (X3_read_L12 bytes p1 (fuel + 1) (nI 0) i filled (-nI k) (nI of) a1 a2 a3 a4 a5 a6 a7 a8 a9 a10 a11 a12 a15 a16 a17 a18 a19 a20 a21 a22 a23 a24 a25)
      (X7_load_L132 eo ud buffer data r0 r1 r2 r3 r4 r5 r6 r7 p1' (fuel' + 1) thr bl b1 b2 (-nI k) (nI of) b3 b4 b5 b6 d) := by
  rw [X3_read_L12, X7_load_L132, q_b1 (ne_err k2 k6), if_pos (show nI 0 = 0 from rfl), if_pos (show nI 0 = 0 from rfl), ite_self]
  apply t_endB k2 k6
theorem t_loop (T : Txt E bytes buffer tx) {w h n : Nat} {pulls lk : Nat → Int32} (filled eo ud thr bl p1 p1' : Int32) : ∀ (fuel fuel' i p pt s HN sz V LL rc : Nat) (hx hy : Nat → Nat) (cells holeX holeY codes fa d : Nat → Int32) (num ns : Int32), E - p < fuel → E - p < fuel' → i ≤ p → p ≤ E → DraftN w h n HN sz V LL rc hx hy cells pulls holeX holeY codes lk fa d → pt ≤ n → s < 8 → (s / 4 % 2 = 0 → d 9 = nI 0) → (HN = 0 → d 495 = nI 0 ∧ d 496 = nI 0) →
    LoopR E w h n pulls lk filled ud thr bl p1' buffer data r0 r1 r2 r3 r4 r5 r6 r7 (X3_read_L12 bytes p1 fuel (nI 1) (nI i) filled (nI 0) (-nI 1) (nI E) (nI p) num (nI pt) (nI (s % 2)) (nI (s / 2 % 2)) (nI (s / 4 % 2)) (nI w) (nI h) (nI n) (nI HN) (nI rc) cells pulls holeX holeY (nI sz) codes (nI V) (nI LL) (nI 0) lk fa)
      (X7_load_L132 eo ud buffer data r0 r1 r2 r3 r4 r5 r6 r7 p1' fuel' thr bl (nI E) (nI p) (nI 0) (-nI 1) ns (nI 0) (nI s) (nI pt) d)
  | 0, _, _, _, _, _, _, _, _, _, _, _, _, _, _, _, _, _, _, _, _, h0, _, _, _, _, _, _, _, _ => absurd h0 (Nat.not_lt_zero _)
  | _ + 1, 0, _, _, _, _, _, _, _, _, _, _, _, _, _, _, _, _, _, _, _, _, h0, _, _, _, _, _, _, _ => absurd h0 (Nat.not_lt_zero _)
  | fuel + 1, fuel' + 1, i, p, pt, s, HN, sz, V, LL, rc, hx, hy, cells, holeX, holeY, codes, fa, d, num, ns, h0, h0', hi, hp, N, hpt, hs, h9, hz => by
    have hE := T.1
    have hn0 : ¬ nI 1 = 0 := by decide +kernel
    have hg : X7_isGood (nI 0) = some (nI 1) := rfl
    rw [X3_read_L12, X7_load_L132, q_b1 hg, if_neg hn0, if_neg hn0, q_b2 (t_ahead T hp)]
    by_cases c : p < E ∧ sk E tx p < E
    · have hq := sk_ge E tx p
      rw [if_neg (nI_ge (show i < E by omega) (by omega)), q_b2 (t_peek T hp), chA_in c.2, if_neg (show ¬ nI (tx (sk E tx p)) = (-1 : Int32) from ne_mB (by have := (T.2 _ c.2).1; omega)), if_neg (show ¬ nI (tx (sk E tx p)) = (-1 : Int32) from ne_mB (by have := (T.2 _ c.2).1; omega))]
      rcases t_statement T N hpt hs h9 hz (Nat.le_of_lt c.2) (sk_sk E tx p) num ns with ⟨p', pt', s', HN', rc', sz', V', LL', hx', hy', cells', holeX', holeY', codes', fa', d', num', ns', g1, g2, g3, g4, g5, g6, g7, g8, g9⟩ | ⟨k, of, a1, a2, a3, a4, a5, a6, a7, a8, a9, a10, a11, a12, a13, a14, a15, a16, b1, b2, b3, b4, b5, d', k1, k2, k3, k4⟩
      · rw [q_b19 g3, if_neg hn0, g4]
        unfold X7_statement_J160
        rcases t_sign T g2 (c := 59) (by omega) with ⟨m1, m2, m3⟩ | ⟨m2, m3⟩
        · have hq' := sk_ge E tx p'
          rw [q_b4 (show X3_readSign (nI 0) (-nI 1) (nI E) (nI p') bytes 59 = _ from m2), q_b3 (show X7_expect (nI E) (nI p') (nI 0) (-nI 1) buffer 59 = _ from m3), q_b8 (Eq.trans rfl rfl), if_neg hn0]
          unfold X3_read_J53
          rw [q_nm, nI_1]
          exact t_loop T filled eo ud thr bl p1 p1' fuel fuel' (i + 1) (sk E tx p' + 1) pt' s' HN' sz' V' LL' rc' hx' hy' cells' holeX' holeY' codes' fa' d' num' ns' (by omega) (by omega) (by omega) (by omega) g5 g6 g7 g8 g9
        · rw [q_b4 (show X3_readSign (nI 0) (-nI 1) (nI E) (nI p') bytes 59 = _ from m2), q_b3 (show X7_expect (nI E) (nI p') (nI 0) (-nI 1) buffer 59 = _ from m3), q_b8 (Eq.trans rfl rfl), if_pos (show nI 0 = 0 from rfl)]
          unfold X3_read_J52 X3_read_J53
          obtain ⟨f1, rfl⟩ : ∃ f, fuel = f + 1 := ⟨fuel - 1, by omega⟩
          obtain ⟨f2, rfl⟩ : ∃ f, fuel' = f + 1 := ⟨fuel' - 1, by omega⟩
          rw [q_nm]
          exact t_stopC (k := 2) (by omega) (by omega) f1 f2 .. 
      · rw [q_b19 k3, if_pos (show nI 0 = 0 from rfl), k4]
        unfold X7_statement_J160 X3_read_J52 X3_read_J53
        obtain ⟨f1, rfl⟩ : ∃ f, fuel = f + 1 := ⟨fuel - 1, by omega⟩
        obtain ⟨f2, rfl⟩ : ∃ f, fuel' = f + 1 := ⟨fuel' - 1, by omega⟩
        rw [q_b3 (r_expectErr k1 k2 _ _ _ _), q_b8 (Eq.trans rfl rfl), q_nm]
        exact t_stopC k1 k2 f1 f2 ..
    · have hge : ¬ sk E tx p < E := fun q => c ⟨Nat.lt_of_le_of_lt (sk_ge E tx p) q, q⟩
      rw [chA_out hge, if_pos (show -nI 1 = (-1 : Int32) from rfl)]
      by_cases ei : E ≤ i
      · rw [if_pos (nI_le ei (by omega))]
        exact t_endG N hz ..
      · rw [if_neg (nI_ge (show i < E by omega) (by omega)), q_b2 (t_peek T hp), chA_out hge, if_pos (show -nI 1 = (-1 : Int32) from rfl)]
        exact t_endG N hz ..
end RD
