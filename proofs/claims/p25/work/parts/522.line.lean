/-! NUMBERS: the reference's reader: a plane's line -/
section XR
variable {E : Nat} {bytes buffer : Nat → Int32} {tx : Nat → Nat}
/-- a line's letter as the reference keeps it -/
def kcC (c : Nat) : Int32 := if c = 46 then -nI 1 else nI (c - 97)
def lnD (d : Nat → Int32) (b : Nat) (s : Nat → Nat) : Nat → Nat → Int32
  | 0 => d
  | x + 1 => upd (lnD d b s x) (b + x) (kcC (s x))
theorem lnD_lo {d : Nat → Int32} {b : Nat} {s : Nat → Nat} {j : Nat} (h : j < b) : ∀ x, lnD d b s x j = d j
  | 0 => rfl
  | x + 1 => by rw [lnD, pk_un (by omega)]; exact lnD_lo h x
theorem lnD_hi {d : Nat → Int32} {b : Nat} {s : Nat → Nat} : ∀ x j, b + x ≤ j → lnD d b s x j = d j
  | 0, _, _ => rfl
  | x + 1, j, h => by rw [lnD, pk_un (by omega)]; exact lnD_hi x j (by omega)
theorem lnD_at {d : Nat → Int32} {b : Nat} {s : Nat → Nat} : ∀ x j, j < x → lnD d b s x (b + j) = kcC (s j)
  | 0, _, h => absurd h (Nat.not_lt_zero _)
  | x + 1, j, h => by
    rw [lnD]
    by_cases e : j = x
    · rw [e, pk_us]
    · rw [pk_un (by omega)]; exact lnD_at x j (by omega)
theorem r_lineX (T : Txt E bytes buffer tx) {w n pl y q : Nat} (ea o : Int32) (hw : w ≤ 12) (hy : y < 8) (hn0 : 0 < n) (hn : n ≤ 5) (hpl : pl < n) (hq : q + w ≤ E) (hl : ∀ k, k < w → lnB (tx (q + k)) = true) (hb46 : ∀ k, k < w → tx (q + k) = 46 → pl ≠ n - 1) {d : Nat → Int32} (d2 : d 2 = nI n) : ∀ (fuel x : Nat), w - x < fuel → x ≤ w →
    X7_readLine_L82 (nI E) buffer (nI pl) (nI y) fuel (nI q) (nI w) (nI w) (nI x) o (nI 0) ea (lnD d (15 + 96 * pl + w * y) (fun k => tx (q + k)) x) = some (nI (q + w), nI 0, ea, lnD d (15 + 96 * pl + w * y) (fun k => tx (q + k)) w)
  | 0, x, h, _ => absurd h (Nat.not_lt_zero _)
  | fuel + 1, x, h, hx => by
    have hE := T.1
    have hwy : w * y ≤ 12 * 7 := Nat.mul_le_mul hw (by omega)
    rw [X7_readLine_L82]
    by_cases e : x = w
    · subst e
      simp (disch := omega) only [s_lit, s_b0, s_b1, s_b2, s_b3, s_b4, s_b5, s_b6, s_x0, s_x0l, s_t1, s_nm, s_ckT, s_ld, s_st, s_clamp, nI_add, pk_mul, s_sub, s_nad, s_div, s_mod, s_rem2, s_le_t, s_le_f, s_lt_t, s_lt_f, s_eq_t, s_eq_f, s_n1, s_n2, s_n3, s_n4, s_n5, s_n6, s_n7, s_n8, s_n9, s_n10, s_n11, s_n12, s_us, s_un, s_uLs, s_uLn, ↓reduceIte, not_false_eq_true, not_true_eq_false, true_and, and_true, and_self, or_false, false_or, or_self, true_or, or_true, false_and, and_false, Int32.neg_neg, Nat.add_zero, Nat.zero_add, Nat.reduceSub, Nat.reduceAdd, Nat.reduceMul, Nat.reduceLeDiff, X7_readLine_J177]
    · have hx' : x < w := by omega
      have hlt : q + x < E := by omega
      have hb := t_byteAt T (p := q + x) (by omega)
      rw [chA_in hlt] at hb
      have ht := (T.2 (q + x) hlt).1
      have g := r_lineX T ea o hw hy hn0 hn hpl hq hl hb46 d2 fuel (x + 1) (by omega) (by omega)
      rw [lnD] at g
      have g2 : lnD d (15 + 96 * pl + w * y) (fun k => tx (q + k)) x 2 = nI n := (lnD_lo (by omega) x).trans d2
      rcases lnB_t (hl x hx') with h46 | ⟨h97, h122⟩
      · have hne := hb46 x hx' h46
        rw [h46] at hb
        rw [show kcC (tx (q + x)) = -nI 1 from by rw [h46]; rfl] at g
        simp (disch := omega) only [s_lit, s_b0, s_b1, s_b2, s_b3, s_b4, s_b5, s_b6, s_x0, s_x0l, s_t1, s_nm, s_ckT, s_ld, s_st, s_clamp, nI_add, pk_mul, s_sub, s_nad, s_div, s_mod, s_rem2, s_le_t, s_le_f, s_lt_t, s_lt_f, s_eq_t, s_eq_f, s_n1, s_n2, s_n3, s_n4, s_n5, s_n6, s_n7, s_n8, s_n9, s_n10, s_n11, s_n12, s_us, s_un, s_uLs, s_uLn, ↓reduceIte, not_false_eq_true, not_true_eq_false, true_and, and_true, and_self, or_false, false_or, or_self, true_or, or_true, false_and, and_false, Int32.neg_neg, Nat.add_zero, Nat.zero_add, Nat.reduceSub, Nat.reduceAdd, Nat.reduceMul, Nat.reduceLeDiff, X7_isGood, hb, g2, X7_readLine_J135, X7_readLine_J170]
        exact g
      · have hk : kcC (tx (q + x)) = nI (tx (q + x) - 97) := if_neg (by omega)
        rw [hk] at g
        simp (disch := omega) only [s_lit, s_b0, s_b1, s_b2, s_b3, s_b4, s_b5, s_b6, s_x0, s_x0l, s_t1, s_nm, s_ckT, s_ld, s_st, s_clamp, nI_add, pk_mul, s_sub, s_nad, s_div, s_mod, s_rem2, s_le_t, s_le_f, s_lt_t, s_lt_f, s_eq_t, s_eq_f, s_n1, s_n2, s_n3, s_n4, s_n5, s_n6, s_n7, s_n8, s_n9, s_n10, s_n11, s_n12, s_us, s_un, s_uLs, s_uLn, ↓reduceIte, not_false_eq_true, not_true_eq_false, true_and, and_true, and_self, or_false, false_or, or_self, true_or, or_true, false_and, and_false, Int32.neg_neg, Nat.add_zero, Nat.zero_add, Nat.reduceSub, Nat.reduceAdd, Nat.reduceMul, Nat.reduceLeDiff, X7_isGood, hb, g2, X7_readLine_J135, X7_readLine_J170]
        exact g
theorem r_lineL (T : Txt E bytes buffer tx) {w q : Nat} (ea o : Int32) (d : Nat → Int32) (p1 p2 : Int32) (hq : q + w ≤ E) (hl : ∀ k, k < w → lnB (tx (q + k)) = true) (he : chB E tx lnB (q + w) = false) : ∀ (fuel i : Nat), w - i < fuel → i ≤ w →
    X7_readLine_L45 (nI E) (nI 0) ea buffer d p1 p2 fuel (nI q) (nI i) (nI w) o = X7_readLine_L82 (nI E) buffer p1 p2 FU (nI q) (nI w) (nI w) (nI 0) o (nI 0) ea d
  | 0, i, h, _ => absurd h (Nat.not_lt_zero _)
  | fuel + 1, i, h, hi => by
    have hE := T.1
    have hb := t_byteAt T (p := q + i) (by omega)
    have hc := (t_ch T (q + i)).2.2.2.2
    rw [X7_readLine_L45, nI_add, q_b1 hb, q_b1 hc]
    by_cases e : i = w
    · subst e
      rw [he, if_pos (show b01 false = 0 by decide), if_pos rfl]
      rfl
    · rw [chB_in (show q + i < E by omega), hl i (by omega), if_neg (show ¬ b01 true = 0 by decide), s_nm, nI_1]
      exact r_lineL T ea o d p1 p2 hq hl he fuel (i + 1) (by omega) (by omega)
theorem r_line (T : Txt E bytes buffer tx) {w n pl y p q : Nat} (ea : Int32) (hp : p ≤ E) (hs : sk E tx p = q) (w0 : 0 < w) (hw : w ≤ 12) (hy : y < 8) (hn0 : 0 < n) (hn : n ≤ 5) (hpl : pl < n) (hq : q + w ≤ E) (hl : ∀ k, k < w → lnB (tx (q + k)) = true) (he : chB E tx lnB (q + w) = false) (hb46 : ∀ k, k < w → tx (q + k) = 46 → pl ≠ n - 1) {d : Nat → Int32} (d0 : d 0 = nI w) (d2 : d 2 = nI n) :
    X7_readLine (nI E) (nI p) (nI 0) ea buffer d (nI pl) (nI y) = some (nI (q + w), nI 0, ea, lnD d (15 + 96 * pl + w * y) (fun k => tx (q + k)) w) := by
  have ha := t_ahead T hp
  have hc := (t_ch T q).2.2.2.2
  have hl0 := hl 0 w0
  rw [Nat.add_zero] at hl0
  rw [chB_in (show q < E by omega), hl0] at hc
  rw [hs] at ha
  unfold X7_readLine X7_isGood
  rw [if_pos (show nI 0 = (0 : Int32) from rfl), q_bn1, if_neg (show ¬ (1 : Int32) = 0 by decide), q_b2 ha, q_b1 hc, if_neg (show ¬ b01 true = 0 by decide), q_ld (i := (0 : Int32)) d 0 _ rfl (by omega) (by omega), d0]
  exact (r_lineL T ea (nI q) d (nI pl) (nI y) hq hl he FU 0 (by unfold FU; omega) (Nat.zero_le _)).trans (r_lineX T ea (nI q) hw hy hn0 hn hpl hq hl hb46 d2 FU 0 (by unfold FU; omega) (Nat.zero_le _))
end XR
