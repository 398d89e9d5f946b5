/-! NUMBERS: the choice of a hole: the best free one that the viewer can pay -/
def BI (P : Nat → Prop) (ok fr : Nat → Prop) (Cf : Nat → Nat) (z : Bool) (ob : Option Nat) : Prop :=
  (z = true ↔ ∃ j, P j ∧ ok j) ∧ (match ob with
    | none => ∀ j, P j → ok j → fr j → False
    | some b => P b ∧ ok b ∧ fr b ∧ ∀ j, P j → ok j → fr j → Cf j < Cf b ∨ (Cf j = Cf b ∧ b ≤ j))
theorem BI.uniq {P ok fr : Nat → Prop} {Cf : Nat → Nat} {z z2 : Bool} {ob ob2 : Option Nat} (h : BI P ok fr Cf z ob) (g : BI P ok fr Cf z2 ob2) : z2 = z ∧ ob2 = ob := by
  refine ⟨Bool.eq_iff_iff.mpr (g.1.trans h.1.symm), ?_⟩
  obtain ⟨-, h⟩ := h
  obtain ⟨-, g⟩ := g
  cases ob with
  | none =>
    cases ob2 with
    | none => rfl
    | some b => exact (h b g.1 g.2.1 g.2.2.1).elim
  | some a =>
    cases ob2 with
    | none => exact (g a h.1 h.2.1 h.2.2.1).elim
    | some b =>
      have h1 := h.2.2.2 b g.1 g.2.1 g.2.2.1
      have g1 := g.2.2.2 a h.1 h.2.1 h.2.2.1
      congr 1; omega
section BI
variable {P P2 ok fr : Nat → Prop} {Cf : Nat → Nat} {z : Bool} {ob : Option Nat} {e : Nat}
theorem BI.no (h : BI P ok fr Cf z ob) (hP : ∀ j, P2 j ↔ (P j ∨ j = e)) (hk : ¬ ok e) : BI P2 ok fr Cf z ob := by
  obtain ⟨h1, h2⟩ := h
  refine ⟨h1.trans ⟨fun ⟨j, a, b⟩ => ⟨j, (hP j).mpr (Or.inl a), b⟩, fun ⟨j, a, b⟩ => ?_⟩, ?_⟩
  · rcases (hP j).mp a with a | a
    · exact ⟨j, a, b⟩
    · exact absurd (a ▸ b) hk
  · cases ob with
    | none =>
      intro j a b c
      rcases (hP j).mp a with a | a
      · exact h2 j a b c
      · exact hk (a ▸ b)
    | some m =>
      refine ⟨(hP m).mpr (Or.inl h2.1), h2.2.1, h2.2.2.1, fun j a b c => ?_⟩
      rcases (hP j).mp a with a | a
      · exact h2.2.2.2 j a b c
      · exact absurd (a ▸ b) hk
theorem BI.busy (h : BI P ok fr Cf z ob) (hP : ∀ j, P2 j ↔ (P j ∨ j = e)) (hk : ok e) (hf : ¬ fr e) : BI P2 ok fr Cf true ob := by
  obtain ⟨h1, h2⟩ := h
  refine ⟨⟨fun _ => ⟨e, (hP e).mpr (Or.inr rfl), hk⟩, fun _ => rfl⟩, ?_⟩
  cases ob with
  | none =>
    intro j a b c
    rcases (hP j).mp a with a | a
    · exact h2 j a b c
    · exact hf (a ▸ c)
  | some m =>
    refine ⟨(hP m).mpr (Or.inl h2.1), h2.2.1, h2.2.2.1, fun j a b c => ?_⟩
    rcases (hP j).mp a with a | a
    · exact h2.2.2.2 j a b c
    · exact absurd (a ▸ c) hf
theorem BI.new (h : BI P ok fr Cf z ob) (hP : ∀ j, P2 j ↔ (P j ∨ j = e)) (hk : ok e) (hf : fr e) (hb : ∀ b, ob = some b → Cf b < Cf e ∨ (Cf b = Cf e ∧ e ≤ b)) : BI P2 ok fr Cf true (some e) := by
  obtain ⟨h1, h2⟩ := h
  refine ⟨⟨fun _ => ⟨e, (hP e).mpr (Or.inr rfl), hk⟩, fun _ => rfl⟩, (hP e).mpr (Or.inr rfl), hk, hf, fun j a b c => ?_⟩
  rcases (hP j).mp a with a | a
  · cases ob with
    | none => exact (h2 j a b c).elim
    | some m =>
      have g1 := h2.2.2.2 j a b c
      have g2 := hb m rfl
      omega
  · rw [a]; exact Or.inr ⟨rfl, Nat.le_refl _⟩
theorem BI.old {b : Nat} (h : BI P ok fr Cf z (some b)) (hP : ∀ j, P2 j ↔ (P j ∨ j = e)) (hk : ok e) (hb : Cf e < Cf b ∨ (Cf e = Cf b ∧ b ≤ e)) : BI P2 ok fr Cf true (some b) := by
  obtain ⟨h1, h2⟩ := h
  refine ⟨⟨fun _ => ⟨e, (hP e).mpr (Or.inr rfl), hk⟩, fun _ => rfl⟩, (hP b).mpr (Or.inl h2.1), h2.2.1, h2.2.2.1, fun j a b c => ?_⟩
  rcases (hP j).mp a with a | a
  · exact h2.2.2.2 j a b c
  · rw [a]; exact hb
end BI
def obI : Option Nat → Int32
  | none => -nI 1
  | some b => nI b
def zB (z : Bool) : Int32 := if z = true then nI 1 else nI 0
def chD (data : Nat → Int32) (v LL : Nat) (z : Bool) : Option Nat → Nat → Int32
  | some b => upd (upd (upd data (503 + 7 * v + 3) (nI 1)) (503 + 7 * v + 4) (nI b)) (503 + 7 * v + 5) (nI LL)
  | none => if z = true then data else upd data (503 + 7 * v + 3) (nI 3)
/-- what a viewer can do: use the hole, pay it -/
def okC (hI rI : Int32) (holeY : Nat → Int32) (Pf : Nat → Nat → Nat) (a : Int32) (q c : Nat) (j : Nat) : Prop := ¬ useV hI rI (holeY j) a = nI 0 ∧ Pf j q ≤ c
theorem r_chooseB {V HN LL : Nat} {hI rI : Int32} {holeY : Nat → Int32} {Pf Cf : Nat → Nat → Nat} {lookers facts data : Nat → Int32} (RA : RAsk V HN LL hI rI holeY Pf Cf data) (hPC : ∀ k, k < HN → ∀ q, q < 26 → Cf k q ≤ 96 ∧ Pf k q ≤ 999) (hV : V ≤ 20) (hH : HN ≤ 4) (R : VRel V facts data) (I : CInv V HN lookers facts) {v q c : Nat} (hv : v < V) (hq : q < 26) (hc : c ≤ 999)
    (f1 : facts (v * 7 + 1) = nI q) (f2 : facts (v * 7 + 2) = nI c) :
    ∀ (fuel i : Nat) (z : Bool) (ob : Option Nat) (mr : Int32) (stack : Nat → Int64) (fc : Nat → Int32), HN - i < fuel → i ≤ HN → BI (fun j => j < i) (okC hI rI holeY Pf (facts (v * 7)) q c) (fun j => lookers j = -nI 1) (fun j => Cf j q) z ob → (∀ b, ob = some b → mr = nI (Cf b q)) →
    ∃ z2 ob2 s1 h1, BI (fun j => j < HN) (okC hI rI holeY Pf (facts (v * 7)) q c) (fun j => lookers j = -nI 1) (fun j => Cf j q) z2 ob2 ∧ X7_choose_L10 data (nI v) fuel (obI ob) mr (zB z) (nI i) stack fc = some (chD data v LL z2 ob2, s1, h1)
  | 0, i, _, _, _, _, _, h0, _, _, _ => absurd h0 (Nat.not_lt_zero _)
  | fuel + 1, i, z, ob, mr, stack, fc, h0, hi, B, hm => by
    have d1' := R v hv 1 (by omega)
    have d2' := R v hv 2 (by omega)
    have d0' := R v hv 0 (by omega)
    rw [Nat.add_zero, Nat.add_zero] at d0'
    obtain ⟨ra1, ra2, ra3, ra4, ra5, ra6, ra7⟩ := id RA
    rw [X7_choose_L10]
    by_cases e : i = HN
    · subst e
      refine ⟨z, ob, stack, fc, B, ?_⟩
      cases ob with
      | some b =>
        have hb : b < i := B.2.1
        have hz : z = true := B.1.mpr ⟨b, hb, B.2.2.1⟩
        rw [hz]
        show _ = some (upd (upd (upd data (503 + 7 * v + 3) (nI 1)) (503 + 7 * v + 4) (nI b)) (503 + 7 * v + 5) (nI LL), stack, fc)
        rw [show zB true = nI 1 from rfl, show obI (some b) = nI b from rfl]
        simp (disch := omega) only [s_lit, s_b0, s_b1, s_b2, s_b3, s_b4, s_b5, s_b6, s_x0, s_x0l, s_t1, s_nm, s_ckT, s_ld, s_st, s_clamp, nI_add, pk_mul, s_sub, s_nad, s_div, s_mod, s_rem2, s_le_t, s_le_f, s_lt_t, s_lt_f, s_eq_t, s_eq_f, s_n1, s_n2, s_n3, s_n4, s_n5, s_n6, s_n7, s_n8, s_n9, s_n10, s_n11, s_n12, s_us, s_un, s_uLs, s_uLn, ↓reduceIte, not_false_eq_true, not_true_eq_false, true_and, and_true, and_self, or_false, false_or, or_self, true_or, or_true, false_and, and_false, Int32.neg_neg, Nat.add_zero, Nat.zero_add, Nat.reduceSub, Nat.reduceAdd, Nat.reduceMul, Nat.reduceLeDiff, ra5, X7_choose_J120, r_setN, ra6]
      | none =>
        cases z with
        | true =>
          rw [show zB true = nI 1 from rfl, show obI none = -nI 1 from rfl]
          show _ = some (data, stack, fc)
          simp (disch := omega) only [s_lit, s_b0, s_b1, s_b2, s_b3, s_b4, s_b5, s_b6, s_x0, s_x0l, s_t1, s_nm, s_ckT, s_ld, s_st, s_clamp, nI_add, pk_mul, s_sub, s_nad, s_div, s_mod, s_rem2, s_le_t, s_le_f, s_lt_t, s_lt_f, s_eq_t, s_eq_f, s_n1, s_n2, s_n3, s_n4, s_n5, s_n6, s_n7, s_n8, s_n9, s_n10, s_n11, s_n12, s_us, s_un, s_uLs, s_uLn, ↓reduceIte, not_false_eq_true, not_true_eq_false, true_and, and_true, and_self, or_false, false_or, or_self, true_or, or_true, false_and, and_false, Int32.neg_neg, Nat.add_zero, Nat.zero_add, Nat.reduceSub, Nat.reduceAdd, Nat.reduceMul, Nat.reduceLeDiff, ra5, X7_choose_J120]
        | false =>
          rw [show zB false = nI 0 from rfl, show obI none = -nI 1 from rfl]
          show _ = some (upd data (503 + 7 * v + 3) (nI 3), stack, fc)
          simp (disch := omega) only [s_lit, s_b0, s_b1, s_b2, s_b3, s_b4, s_b5, s_b6, s_x0, s_x0l, s_t1, s_nm, s_ckT, s_ld, s_st, s_clamp, nI_add, pk_mul, s_sub, s_nad, s_div, s_mod, s_rem2, s_le_t, s_le_f, s_lt_t, s_lt_f, s_eq_t, s_eq_f, s_n1, s_n2, s_n3, s_n4, s_n5, s_n6, s_n7, s_n8, s_n9, s_n10, s_n11, s_n12, s_us, s_un, s_uLs, s_uLn, ↓reduceIte, not_false_eq_true, not_true_eq_false, true_and, and_true, and_self, or_false, false_or, or_self, true_or, or_true, false_and, and_false, Int32.neg_neg, Nat.add_zero, Nat.zero_add, Nat.reduceSub, Nat.reduceAdd, Nat.reduceMul, Nat.reduceLeDiff, ra5, r_setN, X7_choose_J120]
    · have hi' : i < HN := by omega
      have hP : ∀ j, j < i + 1 ↔ (j < i ∨ j = i) := fun j => by omega
      have rcan := r_canUse (data := data) (show v < 20 by omega) ra3 ra4 (ra2 i hi')
      rw [d0'] at rcan
      by_cases u : useV hI rI (holeY i) (facts (v * 7)) = nI 0
      · obtain ⟨z2, ob2, s1, h1, k1, k2⟩ := r_chooseB RA hPC hV hH R I hv hq hc f1 f2 fuel (i + 1) z ob mr stack fc (by omega) (by omega) (B.no hP (fun g => g.1 u)) hm
        refine ⟨z2, ob2, s1, h1, k1, ?_⟩
        simp (disch := omega) only [s_lit, s_b0, s_b1, s_b2, s_b3, s_b4, s_b5, s_b6, s_x0, s_x0l, s_t1, s_nm, s_ckT, s_ld, s_st, s_clamp, nI_add, pk_mul, s_sub, s_nad, s_div, s_mod, s_rem2, s_le_t, s_le_f, s_lt_t, s_lt_f, s_eq_t, s_eq_f, s_n1, s_n2, s_n3, s_n4, s_n5, s_n6, s_n7, s_n8, s_n9, s_n10, s_n11, s_n12, s_us, s_un, s_uLs, s_uLn, ↓reduceIte, not_false_eq_true, not_true_eq_false, true_and, and_true, and_self, or_false, false_or, or_self, true_or, or_true, false_and, and_false, Int32.neg_neg, Nat.add_zero, Nat.zero_add, Nat.reduceSub, Nat.reduceAdd, Nat.reduceMul, Nat.reduceLeDiff, ra5, rcan, u, X7_choose_J102]
        exact k2
      · obtain ⟨s1, h1, hr1⟩ := (ra1 i hi' q hq).1 stack fc
        obtain ⟨cb, pb⟩ := hPC i hi' q hq
        have hsh := (ra1 i hi' q hq).2
        have hlk := r_lookerAt hV R I ra7 hi' hH
        by_cases cp : Pf i q ≤ c
        · have hok : okC hI rI holeY Pf (facts (v * 7)) q c i := ⟨u, cp⟩
          by_cases lk : lookers i = -nI 1
          · by_cases better : ∀ b, ob = some b → Cf b q < Cf i q
            · obtain ⟨z2, ob2, s2, h2, k1, k2⟩ := r_chooseB RA hPC hV hH R I hv hq hc f1 f2 fuel (i + 1) true (some i) (nI (Cf i q)) s1 h1 (by omega) (by omega) (B.new hP hok lk (fun b hb => Or.inl (better b hb))) (fun b hb => by rw [← Option.some.inj hb])
              refine ⟨z2, ob2, s2, h2, k1, ?_⟩
              cases ob with
              | none =>
                rw [show obI none = -nI 1 from rfl]
                simp (disch := omega) only [s_lit, s_b0, s_b1, s_b2, s_b3, s_b4, s_b5, s_b6, s_x0, s_x0l, s_t1, s_nm, s_ckT, s_ld, s_st, s_clamp, nI_add, pk_mul, s_sub, s_nad, s_div, s_mod, s_rem2, s_le_t, s_le_f, s_lt_t, s_lt_f, s_eq_t, s_eq_f, s_n1, s_n2, s_n3, s_n4, s_n5, s_n6, s_n7, s_n8, s_n9, s_n10, s_n11, s_n12, s_us, s_un, s_uLs, s_uLn, ↓reduceIte, not_false_eq_true, not_true_eq_false, true_and, and_true, and_self, or_false, false_or, or_self, true_or, or_true, false_and, and_false, Int32.neg_neg, Nat.add_zero, Nat.zero_add, Nat.reduceSub, Nat.reduceAdd, Nat.reduceMul, Nat.reduceLeDiff, ra5, rcan, u, r_ofN, d1', f1, hr1, d2', f2, hsh, hlk, lk, X7_choose_J96, X7_choose_J102]
                exact k2
              | some b =>
                have hlt := better b rfl
                have hbH : b < i := B.2.1
                obtain ⟨cb2, -⟩ := hPC b (by omega) q hq
                rw [show obI (some b) = nI b from rfl, hm b rfl]
                simp (disch := omega) only [s_lit, s_b0, s_b1, s_b2, s_b3, s_b4, s_b5, s_b6, s_x0, s_x0l, s_t1, s_nm, s_ckT, s_ld, s_st, s_clamp, nI_add, pk_mul, s_sub, s_nad, s_div, s_mod, s_rem2, s_le_t, s_le_f, s_lt_t, s_lt_f, s_eq_t, s_eq_f, s_n1, s_n2, s_n3, s_n4, s_n5, s_n6, s_n7, s_n8, s_n9, s_n10, s_n11, s_n12, s_us, s_un, s_uLs, s_uLn, ↓reduceIte, not_false_eq_true, not_true_eq_false, true_and, and_true, and_self, or_false, false_or, or_self, true_or, or_true, false_and, and_false, Int32.neg_neg, Nat.add_zero, Nat.zero_add, Nat.reduceSub, Nat.reduceAdd, Nat.reduceMul, Nat.reduceLeDiff, ra5, rcan, u, r_ofN, d1', f1, hr1, d2', f2, hsh, hlk, lk, X7_choose_J96, X7_choose_J102]
                exact k2
            · cases ob with
              | none => exact absurd (fun b hb => by cases hb) better
              | some b =>
                have hge : Cf i q ≤ Cf b q := Nat.le_of_not_lt (fun w => better (fun b2 hb2 => by rw [← Option.some.inj hb2]; exact w))
                have hbH : b < i := B.2.1
                obtain ⟨cb2, -⟩ := hPC b (by omega) q hq
                obtain ⟨z2, ob2, s2, h2, k1, k2⟩ := r_chooseB RA hPC hV hH R I hv hq hc f1 f2 fuel (i + 1) true (some b) mr s1 h1 (by omega) (by omega) (B.old hP hok (by omega)) hm
                refine ⟨z2, ob2, s2, h2, k1, ?_⟩
                rw [show obI (some b) = nI b from rfl, hm b rfl] at k2 ⊢
                simp (disch := omega) only [s_lit, s_b0, s_b1, s_b2, s_b3, s_b4, s_b5, s_b6, s_x0, s_x0l, s_t1, s_nm, s_ckT, s_ld, s_st, s_clamp, nI_add, pk_mul, s_sub, s_nad, s_div, s_mod, s_rem2, s_le_t, s_le_f, s_lt_t, s_lt_f, s_eq_t, s_eq_f, s_n1, s_n2, s_n3, s_n4, s_n5, s_n6, s_n7, s_n8, s_n9, s_n10, s_n11, s_n12, s_us, s_un, s_uLs, s_uLn, ↓reduceIte, not_false_eq_true, not_true_eq_false, true_and, and_true, and_self, or_false, false_or, or_self, true_or, or_true, false_and, and_false, Int32.neg_neg, Nat.add_zero, Nat.zero_add, Nat.reduceSub, Nat.reduceAdd, Nat.reduceMul, Nat.reduceLeDiff, ra5, rcan, u, r_ofN, d1', f1, hr1, d2', f2, hsh, hlk, lk, X7_choose_J96, X7_choose_J102]
                exact k2
          · obtain ⟨z2, ob2, s2, h2, k1, k2⟩ := r_chooseB RA hPC hV hH R I hv hq hc f1 f2 fuel (i + 1) true ob mr s1 h1 (by omega) (by omega) (B.busy hP hok lk) hm
            refine ⟨z2, ob2, s2, h2, k1, ?_⟩
            simp (disch := omega) only [s_lit, s_b0, s_b1, s_b2, s_b3, s_b4, s_b5, s_b6, s_x0, s_x0l, s_t1, s_nm, s_ckT, s_ld, s_st, s_clamp, nI_add, pk_mul, s_sub, s_nad, s_div, s_mod, s_rem2, s_le_t, s_le_f, s_lt_t, s_lt_f, s_eq_t, s_eq_f, s_n1, s_n2, s_n3, s_n4, s_n5, s_n6, s_n7, s_n8, s_n9, s_n10, s_n11, s_n12, s_us, s_un, s_uLs, s_uLn, ↓reduceIte, not_false_eq_true, not_true_eq_false, true_and, and_true, and_self, or_false, false_or, or_self, true_or, or_true, false_and, and_false, Int32.neg_neg, Nat.add_zero, Nat.zero_add, Nat.reduceSub, Nat.reduceAdd, Nat.reduceMul, Nat.reduceLeDiff, ra5, rcan, u, r_ofN, d1', f1, hr1, d2', f2, hsh, hlk, lk, X7_choose_J96, X7_choose_J102]
            exact k2
        · obtain ⟨z2, ob2, s2, h2, k1, k2⟩ := r_chooseB RA hPC hV hH R I hv hq hc f1 f2 fuel (i + 1) z ob mr s1 h1 (by omega) (by omega) (B.no hP (fun g => cp g.2)) hm
          refine ⟨z2, ob2, s2, h2, k1, ?_⟩
          simp (disch := omega) only [s_lit, s_b0, s_b1, s_b2, s_b3, s_b4, s_b5, s_b6, s_x0, s_x0l, s_t1, s_nm, s_ckT, s_ld, s_st, s_clamp, nI_add, pk_mul, s_sub, s_nad, s_div, s_mod, s_rem2, s_le_t, s_le_f, s_lt_t, s_lt_f, s_eq_t, s_eq_f, s_n1, s_n2, s_n3, s_n4, s_n5, s_n6, s_n7, s_n8, s_n9, s_n10, s_n11, s_n12, s_us, s_un, s_uLs, s_uLn, ↓reduceIte, not_false_eq_true, not_true_eq_false, true_and, and_true, and_self, or_false, false_or, or_self, true_or, or_true, false_and, and_false, Int32.neg_neg, Nat.add_zero, Nat.zero_add, Nat.reduceSub, Nat.reduceAdd, Nat.reduceMul, Nat.reduceLeDiff, ra5, rcan, u, r_ofN, d1', f1, hr1, d2', f2, hsh, hlk, cp, X7_choose_J96, X7_choose_J102]
          exact k2
theorem r_chooseW {V HN LL : Nat} {hI rI : Int32} {holeY : Nat → Int32} {Pf Cf : Nat → Nat → Nat} {lookers facts data : Nat → Int32} (RA : RAsk V HN LL hI rI holeY Pf Cf data) (hPC : ∀ k, k < HN → ∀ q, q < 26 → Cf k q ≤ 96 ∧ Pf k q ≤ 999) (hV : V ≤ 20) (hH : HN ≤ 4) (R : VRel V facts data) (I : CInv V HN lookers facts) {v q c : Nat} (hv : v < V) (hq : q < 26) (hc : c ≤ 999)
    (f1 : facts (v * 7 + 1) = nI q) (f2 : facts (v * 7 + 2) = nI c) (stack : Nat → Int64) (fc : Nat → Int32) :
    ∃ z ob s1 h1, BI (fun j => j < HN) (okC hI rI holeY Pf (facts (v * 7)) q c) (fun j => lookers j = -nI 1) (fun j => Cf j q) z ob ∧ X7_choose data stack fc (nI v) = some (chD data v LL z ob, s1, h1) := by
  obtain ⟨z, ob, s1, h1, k1, k2⟩ := r_chooseB RA hPC hV hH R I hv hq hc f1 f2 FU 0 false none 0 stack fc (by unfold FU; omega) (Nat.zero_le _) ⟨⟨fun h => (by cases h), fun ⟨j, h, _⟩ => absurd h (Nat.not_lt_zero j)⟩, fun j h => absurd h (Nat.not_lt_zero j)⟩ (fun b h => (by cases h))
  exact ⟨z, ob, s1, h1, k1, k2⟩
