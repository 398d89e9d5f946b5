/-! PHASE 2: a setup text is read -/
section RB
variable {E : Nat} {bytes buffer data r0 r1 r2 r3 r4 r5 r6 r7 : Nat → Int32} {tx : Nat → Nat}
theorem t_box (T : Txt E bytes buffer tx) (num ns eo ud bl tl pos er ea ne se to s1 s2 s3 s4 s5 : Int32) (s6 s7 : Nat → Int32) (s8 : Int32) (s9 : Nat → Int32) (s10 s11 s12 : Int32) (s13 : Nat → Int32) (d holeX holeY fa : Nat → Int32) :
    (∃ (w h n p' : Nat) (num' ns' : Int32) (hx hy : Nat → Nat) (c pl l codes d' : Nat → Int32), p' ≤ E ∧ X3_readBox (nI 0) (-nI 1) (nI E) (nI 0) num s1 s2 s3 s4 s5 s6 s7 s8 s9 s10 s11 s12 s13 bytes = some (nI 1, nI 0, -nI 1, nI p', num', nI w, nI h, nI n, nI 0, nI 9, c, pl, nI 3, codes, nI 0, nI 3, nI 0, l) ∧
      X7_load_J23 bl tl pos er ea eo ud ns ne se to buffer data d r0 r1 r2 r3 r4 r5 r6 r7 (nI E) 0 0 = X7_load_L132 eo ud buffer data r0 r1 r2 r3 r4 r5 r6 r7 (nI E) FU 0 0 (nI E) (nI p') (nI 0) (-nI 1) ns' 0 0 0 d' ∧ DraftN w h n 0 3 0 3 9 hx hy c pl holeX holeY codes l fa d' ∧ d' 9 = nI 0 ∧ d' 495 = nI 0 ∧ d' 496 = nI 0) ∨
    ∃ (k of : Nat) (a1 a2 a3 a4 a5 a6 a7 : Int32) (a8 a9 : Nat → Int32) (a10 : Int32) (a11 : Nat → Int32) (a12 a13 a14 : Int32) (a15 : Nat → Int32) (b1 b2 : Int32) (d' : Nat → Int32), 2 ≤ k ∧ k ≤ 6 ∧ X3_readBox (nI 0) (-nI 1) (nI E) (nI 0) num s1 s2 s3 s4 s5 s6 s7 s8 s9 s10 s11 s12 s13 bytes = some (nI 0, -nI k, nI of, a1, a2, a3, a4, a5, a6, a7, a8, a9, a10, a11, a12, a13, a14, a15) ∧
      X7_load_J23 bl tl pos er ea eo ud ns ne se to buffer data d r0 r1 r2 r3 r4 r5 r6 r7 (nI E) 0 0 = X7_load_L132 eo ud buffer data r0 r1 r2 r3 r4 r5 r6 r7 (nI E) FU 0 0 (nI E) b1 (-nI k) (nI of) b2 0 0 0 d' := by
  have hE := T.1
  have hn0 : ¬ nI 1 = 0 := by decide +kernel
  have hq := sk_le (tx := tx) (Nat.zero_le E)
  have hf : X7_fails 0 0 1 = some (0, 0) := rfl
  have hw := r_wordAt T [98, 111, 120] (Nat.zero_le E)
  rcases t_word w_box T hq (sk_sk E tx 0) with ⟨g1, g2, g3⟩ | ⟨g1, g2⟩
  · have hJ : X7_load_J23 bl tl pos er ea eo ud ns ne se to buffer data d r0 r1 r2 r3 r4 r5 r6 r7 (nI E) 0 0 = X7_load_J91 eo ud ns buffer data d r0 r1 r2 r3 r4 r5 r6 r7 (nI E) 0 0 (nI E) (nI (sk E tx 0 + 3)) (nI 0) (-nI 1) 0 0 0 := by
      unfold X7_load_J23
      rw [q_b2 hf, if_pos (show (0 : Int32) = 0 from rfl), q_b2 (show X7_takeWord [98, 111, 120] (nI E) 0 0 buffer = _ from hw.trans g2), if_neg hn0]
      rfl
    rw [hJ]
    unfold X3_readBox X7_load_J91
    rw [q_b2 (t_peek T (Nat.zero_le E)), q_b2 g1, if_neg hn0]
    rcases t_number0 T g3 (lo := 1) (hi := 12) (by omega) (by omega) num ns with ⟨w, p1, x1, x2, x3, x4, x5, x6⟩ | ⟨k, of, a, m, b, s, k1, k2, k3, k4⟩
    · rw [q_b5 (show X3_readNumber (nI 0) (-nI 1) (nI E) (nI (sk E tx 0 + 3)) num bytes 1 12 = _ from x5), q_b5 (show X7_number (nI E) (nI (sk E tx 0 + 3)) (nI 0) (-nI 1) ns buffer 1 12 = _ from x6), if_neg hn0]
      rcases t_number0 T x4 (lo := 1) (hi := 8) (by omega) (by omega) (nI w) (nI (sk E tx (sk E tx 0 + 3))) with ⟨h, p2, y1, y2, y3, y4, y5, y6⟩ | ⟨k, of, a, m, b, s, k1, k2, k3, k4⟩
      · rw [q_b5 (show X3_readNumber (nI 0) (-nI 1) (nI E) (nI p1) (nI w) bytes 1 8 = _ from y5), q_b5 (show X7_number (nI E) (nI p1) (nI 0) (-nI 1) (nI (sk E tx (sk E tx 0 + 3))) buffer 1 8 = _ from y6), if_neg hn0]
        rcases t_number0 T y4 (lo := 1) (hi := 5) (by omega) (by omega) (nI h) (nI (sk E tx p1)) with ⟨n, p3, z1, z2, z3, z4, z5, z6⟩ | ⟨k, of, a, m, b, s, k1, k2, k3, k4⟩
        · obtain ⟨d', l1, l2⟩ := r_layBox (w := w) (h := h) (n := n) (Nat.le_trans (Nat.mul_le_mul x2 y2) (by omega)) z2 d
          obtain ⟨c, pl, l, c1, c2, c3, c4⟩ := q_begin (w := w) (h := h) (n := n) x2 y2 z1 z2 s1 s2 s3 s4 s5 s6 s7 s8 s9 s10 s11 s12 s13
          rw [q_b5 (show X3_readNumber (nI 0) (-nI 1) (nI E) (nI p2) (nI h) bytes 1 5 = _ from z5), q_b5 (show X7_number (nI E) (nI p2) (nI 0) (-nI 1) (nI (sk E tx p1)) buffer 1 5 = _ from z6), if_neg hn0, q_b13 c1, q_b1 l1]
          have N := c2.draft x1 x2 y1 y2 z1 z2 (pc := s9) (fun _ => 0) (fun _ => 0) holeX holeY fa c3 c4 l2
          rcases t_sign T z4 (c := 59) (by omega) with ⟨m1, m2, m3⟩ | ⟨m2, m3⟩
          · rw [q_b4 (show X3_readSign (nI 0) (-nI 1) (nI E) (nI p3) bytes 59 = _ from m2), q_b3 (show X7_expect (nI E) (nI p3) (nI 0) (-nI 1) buffer 59 = _ from m3), q_ck1]
            exact Or.inl ⟨w, h, n, _, _, _, _, _, _, _, _, _, _, by omega, rfl, rfl, N, l2.2.2.2.2.2.2.1 9 (by omega) (by omega), l2.2.2.2.2.2.2.2.1 495 (by omega) (by omega), l2.2.2.2.2.2.2.2.1 496 (by omega) (by omega)⟩
          · rw [q_b4 (show X3_readSign (nI 0) (-nI 1) (nI E) (nI p3) bytes 59 = _ from m2), q_b3 (show X7_expect (nI E) (nI p3) (nI 0) (-nI 1) buffer 59 = _ from m3), q_ck0]
            exact Or.inr ⟨2, _, _, _, _, _, _, _, _, _, _, _, _, _, _, _, _, _, _, _, by omega, by omega, rfl, rfl⟩
        · obtain ⟨d', l1, -⟩ := r_layBox (w := w) (h := h) (n := 0) (Nat.le_trans (Nat.mul_le_mul x2 y2) (by omega)) (by omega) d
          rw [q_b5 (show X3_readNumber (nI 0) (-nI 1) (nI E) (nI p2) (nI h) bytes 1 5 = _ from k3), q_b5 (show X7_number (nI E) (nI p2) (nI 0) (-nI 1) (nI (sk E tx p1)) buffer 1 5 = _ from k4), if_pos (show nI 0 = 0 from rfl), q_b1 l1, q_b3 (r_expectErr k1 k2 _ _ _ _)]
          exact Or.inr ⟨k, of, _, _, _, _, _, _, _, _, _, _, _, _, _, _, _, _, _, _, k1, k2, rfl, rfl⟩
      · obtain ⟨d', l1, -⟩ := r_layBox (w := w) (h := 0) (n := 0) (by omega) (by omega) d
        rw [q_b5 (show X3_readNumber (nI 0) (-nI 1) (nI E) (nI p1) (nI w) bytes 1 8 = _ from k3), q_b5 (show X7_number (nI E) (nI p1) (nI 0) (-nI 1) (nI (sk E tx (sk E tx 0 + 3))) buffer 1 8 = _ from k4), if_pos (show nI 0 = 0 from rfl), q_b5 (r_numberErr k1 k2 _ _ _ _ _ _), q_b1 (show X7_layBox 2243 d (nI w) (nI 0) 0 = _ from l1), q_b3 (r_expectErr k1 k2 _ _ _ _)]
        exact Or.inr ⟨k, of, _, _, _, _, _, _, _, _, _, _, _, _, _, _, _, _, _, _, k1, k2, rfl, rfl⟩
    · obtain ⟨d', l1, -⟩ := r_layBox (w := 0) (h := 0) (n := 0) (by omega) (by omega) d
      rw [q_b5 (show X3_readNumber (nI 0) (-nI 1) (nI E) (nI (sk E tx 0 + 3)) num bytes 1 12 = _ from k3), q_b5 (show X7_number (nI E) (nI (sk E tx 0 + 3)) (nI 0) (-nI 1) ns buffer 1 12 = _ from k4), if_pos (show nI 0 = 0 from rfl), q_b5 (r_numberErr k1 k2 _ _ _ _ _ _), q_b5 (r_numberErr k1 k2 _ _ _ _ _ _), q_b1 (show X7_layBox 2243 d (nI 0) 0 0 = _ from l1), q_b3 (r_expectErr k1 k2 _ _ _ _)]
      exact Or.inr ⟨k, of, _, _, _, _, _, _, _, _, _, _, _, _, _, _, _, _, _, _, k1, k2, rfl, rfl⟩
  · have hJ : X7_load_J23 bl tl pos er ea eo ud ns ne se to buffer data d r0 r1 r2 r3 r4 r5 r6 r7 (nI E) 0 0 = X7_load_J91 eo ud ns buffer data d r0 r1 r2 r3 r4 r5 r6 r7 (nI E) 0 0 (nI E) (nI (sk E tx 0)) (-nI 2) (nI (sk E tx 0)) 0 0 0 := by
      unfold X7_load_J23
      rw [q_b2 hf, if_pos (show (0 : Int32) = 0 from rfl), q_b2 (show X7_takeWord [98, 111, 120] (nI E) 0 0 buffer = _ from hw.trans g2), if_pos (show nI 0 = 0 from rfl), q_b2 (show X7_report 0 (-1) (-2) (nI (sk E tx 0)) = some (-nI 2, nI (sk E tx 0)) from rfl)]
    obtain ⟨d', l1, -⟩ := r_layBox (w := 0) (h := 0) (n := 0) (by omega) (by omega) d
    rw [hJ]
    unfold X3_readBox X7_load_J91
    rw [q_b2 (t_peek T (Nat.zero_le E)), q_b2 g1, if_pos (show nI 0 = 0 from rfl), q_b5 (r_numberErr (k := 2) (by omega) (by omega) _ _ _ _ _ _), q_b5 (r_numberErr (k := 2) (by omega) (by omega) _ _ _ _ _ _), q_b5 (r_numberErr (k := 2) (by omega) (by omega) _ _ _ _ _ _), q_b1 (show X7_layBox 2243 d 0 0 0 = _ from l1), q_b3 (r_expectErr (k := 2) (by omega) (by omega) _ _ _ _), q_b3 (show X3_fail (nI 0) (-nI 1) (-2) (nI (sk E tx 0)) = some (nI 0, -nI 2, nI (sk E tx 0)) from rfl), q_ck0]
    exact Or.inr ⟨2, _, _, _, _, _, _, _, _, _, _, _, _, _, _, _, _, _, _, _, by omega, by omega, rfl, rfl⟩
theorem t_read (T : Txt E bytes buffer tx) {f : Nat} (hf : E ≤ f) (hf8 : f ≤ 800) (sr sa se sat num k1 k2 k3 k4 ns eo ud bl tl pos er ea ne sn to s1 s2 s3 s4 s5 : Int32) (s6 s7 : Nat → Int32) (s8 : Int32) (s9 : Nat → Int32) (s10 s11 s12 : Int32) (s13 : Nat → Int32) (d holeX holeY fa : Nat → Int32) :
    ∃ (w h n : Nat) (pulls lk : Nat → Int32), LoopR E w h n pulls lk 0 ud 0 0 (nI E) buffer data r0 r1 r2 r3 r4 r5 r6 r7 (X3_read (nI f) sr sa se sat num k1 k2 k3 k4 s1 s2 s3 s4 s5 s6 s7 holeX holeY s8 s9 s10 s11 s12 s13 fa bytes (nI E))
      (X7_load_J23 bl tl pos er ea eo ud ns ne sn to buffer data d r0 r1 r2 r3 r4 r5 r6 r7 (nI E) 0 0) := by
  have hE := T.1
  have hb : X3_begin (nI f) sr sa se sat k1 k2 k3 k4 (nI E) = some (nI 0, nI 0, -nI 1, nI E, nI 0, nI 0, nI 0, nI 0, nI 0) := by
    unfold X3_begin
    rw [q_nm, if_neg (show ¬ nI f < nI E from nI_nlt hf (by omega))]
    rfl
  unfold X3_read
  rw [q_b9 hb]
  rcases t_box (buffer := buffer) (data := data) (r0 := r0) (r1 := r1) (r2 := r2) (r3 := r3) (r4 := r4) (r5 := r5) (r6 := r6) (r7 := r7) T num ns eo ud bl tl pos er ea ne sn to s1 s2 s3 s4 s5 s6 s7 s8 s9 s10 s11 s12 s13 d holeX holeY fa with ⟨w, h, n, p', num', ns', hx, hy, c, pl, l, codes, d', g1, g2, g3, N, g4, g5, g6⟩ | ⟨k, of, a1, a2, a3, a4, a5, a6, a7, a8, a9, a10, a11, a12, a13, a14, a15, b1, b2, d', g1, g2, g3, g4⟩
  · rw [q_b18 g2, g3]
    exact ⟨w, h, n, pl, l, t_loop T 0 eo ud 0 0 (nI E) (nI E) FU FU 0 p' 0 0 0 3 0 3 9 hx hy c holeX holeY codes fa d' num' ns' (by unfold FU; omega) (by unfold FU; omega) (Nat.zero_le _) g1 N (Nat.zero_le _) (by omega) (fun _ => g4) (fun _ => ⟨g5, g6⟩)⟩
  · rw [q_b18 g3, g4]
    exact ⟨0, 0, 0, fun _ => 0, fun _ => 0, t_stopC g1 g2 999999 999999 ..⟩
end RB
