/-! PHASE 2: the best pull -/
/-- a copied box serves as well -/
theorem KBox.copy {w h n : Nat} {cells cells' : Nat → Int32} {pull : Nat → Nat} (B : KBox w h n cells pull) (hw : w ≤ 12) (hh : h ≤ 8) (hn : n ≤ 5) (h0 : 0 < n) (hc : ∀ m, m < 480 → cells' m = cells m) : KBox w h n cells' pull :=
  ⟨fun p hp y hy x hx => by rw [hc _ (by omega)]; exact B.1 p hp y hy x hx, fun y hy x hx => by rw [hc _ (by omega)]; exact B.2.1 y hy x hx, B.2.2⟩
theorem RBox.copy {w h n : Nat} {cells cells' : Nat → Int32} {pull : Nat → Nat} {HN : Nat} {hx hy : Nat → Nat} {d : Nat → Int32} (R : RBox w h n cells pull HN hx hy d) (hw : w ≤ 12) (hh : h ≤ 8) (hn : n ≤ 5) (hc : ∀ m, m < 480 → cells' m = cells m) : RBox w h n cells' pull HN hx hy d :=
  ⟨R.1, R.2.1, R.2.2.1, R.2.2.2.1, R.2.2.2.2.1, fun p hp y hy x hx => by rw [hc _ (by omega)]; exact R.2.2.2.2.2.1 p hp y hy x hx, R.2.2.2.2.2.2⟩
theorem CBox.copy {n : Nat} {pull : Nat → Nat} {HN : Nat} {hx hy : Nat → Nat} {pulls holeX holeY pulls' holeX' holeY' : Nat → Int32} (C : CBox n pull HN hx hy pulls holeX holeY) (hn : n ≤ 5) (hH : HN ≤ 4) (h1 : ∀ m, m < 5 → pulls' m = pulls m) (h2 : ∀ m, m < 4 → holeX' m = holeX m) (h3 : ∀ m, m < 4 → holeY' m = holeY m) : CBox n pull HN hx hy pulls' holeX' holeY' :=
  ⟨fun p hp => (h1 p (by omega)).trans (C.1 p hp), fun k hk => ⟨(h2 k (by omega)).trans (C.2 k hk).1, (h3 k (by omega)).trans (C.2 k hk).2⟩⟩
/-- one plane's pull is another -/
def pulA (pull : Nat → Nat) (p r : Nat) : Nat → Nat := fun q => if q = p then r else pull q
section BP
variable {w h n HN : Nat} {pull hx hy : Nat → Nat} {cells : Nat → Int32}
theorem SBox.pul (S : SBox w h n pull HN hx hy) {p r : Nat} (hr : r ≤ h) : SBox w h n (pulA pull p r) HN hx hy :=
  ⟨S.1, S.2.1, S.2.2.1, S.2.2.2.1, fun q hq => by
    unfold pulA
    by_cases e : q = p
    · rw [if_pos e]; exact hr
    · rw [if_neg e]; exact S.2.2.2.2.1 q hq, S.2.2.2.2.2⟩
theorem KBox.pul (B : KBox w h n cells pull) {p r : Nat} (hp : p ≠ n - 1) : KBox w h n cells (pulA pull p r) :=
  ⟨B.1, B.2.1, by unfold pulA; rw [if_neg (fun q => hp q.symm)]; exact B.2.2⟩
theorem CBox.pul {pulls pulls' holeX holeY : Nat → Int32} (C : CBox n pull HN hx hy pulls holeX holeY) {p r : Nat} (h1 : pulls' p = nI r) (h2 : ∀ q, q < n → q ≠ p → pulls' q = pulls q) : CBox n (pulA pull p r) HN hx hy pulls' holeX holeY :=
  ⟨fun q hq => by
    unfold pulA
    by_cases e : q = p
    · rw [if_pos e, e]; exact h1
    · rw [if_neg e, h2 q hq e]; exact C.1 q hq, C.2⟩
theorem RBox.pul {d d' : Nat → Int32} (R : RBox w h n cells pull HN hx hy d) (S : SBox w h n pull HN hx hy) {p r : Nat} (hp : p < n) (h1 : d' (10 + p) = nI r) (h2 : ∀ j, j ≠ 10 + p → d' j = d j) : RBox w h n cells (pulA pull p r) HN hx hy d' := by
  have s3 := S.2.2.1
  refine ⟨by rw [h2 _ (by omega)]; exact R.1, by rw [h2 _ (by omega)]; exact R.2.1, by rw [h2 _ (by omega)]; exact R.2.2.1, by rw [h2 _ (by omega)]; exact R.2.2.2.1, fun q hq => ?_, fun q hq y hy x hx => by rw [h2 _ (by omega)]; exact R.2.2.2.2.2.1 q hq y hy x hx, fun k hk => by rw [h2 _ (by omega), h2 _ (by omega)]; exact R.2.2.2.2.2.2 k hk⟩
  unfold pulA
  by_cases e : q = p
  · rw [if_pos e, e]; exact h1
  · rw [if_neg e, h2 _ (by omega)]; exact R.2.2.2.2.1 q hq
/-- how many targets of all holes show a kind -/
def inAll (w h n HN : Nat) (cells : Nat → Int32) (pull hx hy : Nat → Nat) (q : Nat) : Nat := sumN (fun k => cnB w h (skB w h n cells pull (hx k) (hy k)) q) HN
theorem q_inAllL {counts seen kinds depths : Nat → Int32} (Vw : VOK w h n HN cells pull hx hy seen counts kinds depths) (hH : HN ≤ 4) {q : Nat} (hq : q < 26) : ∀ (fuel k c : Nat), HN - k < fuel → k ≤ HN → c = sumN (fun k => cnB w h (skB w h n cells pull (hx k) (hy k)) q) k → X5_countInAll_L5 counts (nI HN) (nI q) fuel (nI c) (nI k) = some (nI (inAll w h n HN cells pull hx hy q))
  | 0, k, c, h0, _, _ => absurd h0 (Nat.not_lt_zero _)
  | fuel + 1, k, c, h0, hk, hc => by
    rw [X5_countInAll_L5]
    by_cases e : k = HN
    · subst e
      rw [hc]
      exact if_pos (nI_le (Nat.le_refl _) (by omega))
    · have hv := (Vw k (by omega)).1 q hq
      simp (disch := omega) only [s_lit, s_b0, s_b1, s_b2, s_b3, s_b4, s_b5, s_b6, s_x0, s_x0l, s_t1, s_nm, s_ckT, s_ld, s_st, s_clamp, nI_add, pk_mul, s_sub, s_nad, s_div, s_mod, s_rem2, s_le_t, s_le_f, s_lt_t, s_lt_f, s_eq_t, s_eq_f, s_n1, s_n2, s_n3, s_n4, s_n5, s_n6, s_n7, s_n8, s_n9, s_n10, s_n11, s_n12, s_us, s_un, s_uLs, s_uLn, ↓reduceIte, not_false_eq_true, not_true_eq_false, true_and, and_true, and_self, or_false, false_or, or_self, true_or, or_true, false_and, and_false, Int32.neg_neg, Nat.add_zero, Nat.zero_add, Nat.reduceSub, Nat.reduceAdd, Nat.reduceMul, Nat.reduceLeDiff]
      rw [hv]
      simp (disch := omega) only [s_lit, s_b0, s_b1, s_b2, s_b3, s_b4, s_b5, s_b6, s_x0, s_x0l, s_t1, s_nm, s_ckT, s_ld, s_st, s_clamp, nI_add, pk_mul, s_sub, s_nad, s_div, s_mod, s_rem2, s_le_t, s_le_f, s_lt_t, s_lt_f, s_eq_t, s_eq_f, s_n1, s_n2, s_n3, s_n4, s_n5, s_n6, s_n7, s_n8, s_n9, s_n10, s_n11, s_n12, s_us, s_un, s_uLs, s_uLn, ↓reduceIte, not_false_eq_true, not_true_eq_false, true_and, and_true, and_self, or_false, false_or, or_self, true_or, or_true, false_and, and_false, Int32.neg_neg, Nat.add_zero, Nat.zero_add, Nat.reduceSub, Nat.reduceAdd, Nat.reduceMul, Nat.reduceLeDiff]
      exact q_inAllL Vw hH hq fuel (k + 1) _ (by omega) (by omega) (by rw [hc]; rfl)
theorem r_inAllL {d : Nat → Int32} (R : RBox w h n cells pull HN hx hy d) (S : SBox w h n pull HN hx hy) (B : KBox w h n cells pull) {q : Nat} (hq : q < 26) (p1 : Int32) (kont : Int32 → Int32 → Int32 → Int32 → Int32 → (Nat → Int32) → Option (Int32 × Int32 × (Nat → Int32))) (l3 l4 l5 l6 o : Int32) : ∀ (fuel k c : Nat), HN - k < fuel → k ≤ HN → c = sumN (fun k => cnB w h (skB w h n cells pull (hx k) (hy k)) q) k →
    X7_bestPull_L97 p1 (nI q) kont fuel l3 l4 l5 l6 (nI c) (nI k) o d = if l5 < nI (inAll w h n HN cells pull hx hy q) then kont l3 l6 (nI (inAll w h n HN cells pull hx hy q)) (l6 + 1) o d else kont l3 l4 l5 (l6 + 1) o d
  | 0, k, c, h0, _, _ => absurd h0 (Nat.not_lt_zero _)
  | fuel + 1, k, c, h0, hk, hc => by
    have hH := S.2.2.2.1
    rw [X7_bestPull_L97]
    refine (q_ld (i := (3 : Int32)) d 3 _ rfl (by omega) (by omega)).trans ?_
    rw [R.2.2.2.1]
    by_cases e : k = HN
    · subst e
      refine (if_pos (nI_le (Nat.le_refl _) (by omega))).trans ?_
      rw [hc]
      rfl
    · refine (if_neg (nI_ge (show k < HN by omega) (by omega))).trans ?_
      refine (q_b1 (r_showing (RSee_of R S B (i := nI k) rfl (show k < HN by omega)) hq)).trans ?_
      show X7_bestPull_L97 p1 (nI q) kont fuel l3 l4 l5 l6 (nI c + nI _) (nI k + 1) o d = _
      rw [nI_add, nI_1]
      exact r_inAllL R S B hq p1 kont l3 l4 l5 l6 o fuel (k + 1) _ (by omega) (by omega) (by rw [hc]; rfl)
theorem bestL {tc tp tx ty : Nat → Int32} {d : Nat → Int32} (S : SBox w h n pull HN hx hy) (B : KBox w h n tc pull) (C : CBox n pull HN hx hy tp tx ty) (R : RBox w h n tc pull HN hx hy d) {p q : Nat} (hp : p < n) (hb : p ≠ n - 1) (hq : q < 26) (o : Int32)
    (ah ac ad ae : Int32) (af ag ai aj : Nat → Int32) (ak : Int32) (al : Nat → Int32) (br bz : Int32) (bc : Nat → Int32) :
    ∀ (fuel r : Nat) (best most : Int32) (pp s1 c1 k1 d1 p1 dd : Nat → Int32), h + 1 - r < fuel → r ≤ h + 1 → (∀ m, m < n → m ≠ p → pp m = tp m) → (∀ j, j ≠ 10 + p → dd j = d j) →
    ∃ v t1 t2 t3 t4 t5 t6 t7 t8 t9 t10 t11 t12 t13 t14 t15 t16, X6_bestPull_L53 ah (nI h) ac ad ae af ag ai aj ak al (nI p) (nI q) fuel best most (nI r) (nI w) (nI h) (nI n) (nI HN) br tc pp tx ty bz bc s1 c1 k1 d1 p1 = some (.inr (v, t1, t2, t3, t4, t5, t6, t7, t8, t9, t10, t11, t12, t13, t14, t15, t16)) ∧ X7_bestPull_L69 (nI p) (nI q) fuel (nI (pull p)) best most (nI r) o dd = some (v, o, d)
  | 0, r, _, _, _, _, _, _, _, _, _, h0, _, _, _ => absurd h0 (Nat.not_lt_zero _)
  | fuel + 1, r, best, most, pp, s1, c1, k1, d1, p1, dd, h0, hr, hpp, hdd => by
    have g2 := S.2.1
    have g3 := S.2.2.1
    have hix : (10 : Int32) + nI p = nI (10 + p) := nI_add 10 p
    rw [X6_bestPull_L53, X7_bestPull_L69, q_ld (i := (1 : Int32)) dd 1 _ rfl (by omega) (by omega), hdd 1 (by omega), R.2.1]
    by_cases e : r = h + 1
    · have hlt : nI h < nI r := nI_lt (by omega) (by omega)
      rw [if_pos hlt, if_pos hlt, hix, q_st _ (10 + p) _ rfl (by omega) (by omega), nI_clamp (by omega)]
      have hd : upd dd (10 + p) (nI (pull p)) = d := by
        funext j
        by_cases ej : j = 10 + p
        · rw [ej, pk_us]; exact (R.2.2.2.2.1 p hp).symm
        · rw [pk_un ej]; exact hdd j ej
      rw [hd]
      exact ⟨_, _, _, _, _, _, _, _, _, _, _, _, _, _, _, _, _, rfl, rfl⟩
    · have hge : ¬ nI h < nI r := nI_nlt (by omega) (by omega)
      rw [if_neg hge, if_neg hge, hix, q_st _ p _ rfl (by omega) (by omega), q_st _ (10 + p) _ rfl (by omega) (by omega), nI_clamp (show 10 + p < 2 ^ 31 by omega), nI_clamp (show p < 2 ^ 31 by omega)]
      have S1 := S.pul (p := p) (show r ≤ h by omega)
      have B1 := B.pul (r := r) hb
      have C1 : CBox n (pulA pull p r) HN hx hy (upd pp p (nI r)) tx ty := C.pul pk_us (fun m hm hne => (pk_un hne).trans (hpp m hm hne))
      have R1 : RBox w h n tc (pulA pull p r) HN hx hy (upd dd (10 + p) (nI r)) := R.pul S hp pk_us (fun j hj => (pk_un hj).trans (hdd j hj))
      obtain ⟨s2, c2, k2, d2, p2, hu, Vw, -⟩ := q_update C1 S1 B1 s1 c1 k1 d1 p1
      have hc : X5_countInAll c2 (nI HN) (nI q) = some (nI (inAll w h n HN tc (pulA pull p r) hx hy q)) := by
        unfold X5_countInAll
        exact q_inAllL Vw S.2.2.2.1 hq FU 0 0 (by have := S.2.2.2.1; unfold FU; omega) (Nat.zero_le _) rfl
      have hrr := r_inAllL R1 S1 B1 hq (nI p) (fun z0 z1 z2 z3 z4 z5 => X7_bestPull_L69 (nI p) (nI q) fuel z0 z1 z2 z3 z4 z5) (nI (pull p)) best most (nI r) o FU 0 0 (by have := S.2.2.2.1; unfold FU; omega) (Nat.zero_le _) rfl
      rw [q_b5 hu, q_b1 hc]
      rw [show (0 : Int32) = nI 0 from rfl, hrr, nI_1]
      by_cases c : most < nI (inAll w h n HN tc (pulA pull p r) hx hy q)
      · rw [if_pos c, if_neg (Int32.not_le.mpr c)]
        show ∃ v t1 t2 t3 t4 t5 t6 t7 t8 t9 t10 t11 t12 t13 t14 t15 t16, X6_bestPull_L53 _ _ _ _ _ _ _ _ _ _ _ _ _ fuel _ _ (nI r + 1) _ _ _ _ _ _ _ _ _ _ _ _ _ _ _ _ = _ ∧ _
        rw [nI_1]
        exact bestL S B C R hp hb hq o ah ac ad ae af ag ai aj ak al br bz bc fuel (r + 1) (nI r) _ (upd pp p (nI r)) s2 c2 k2 d2 p2 (upd dd (10 + p) (nI r)) (by omega) (by omega) (fun m hm hne => (pk_un hne).trans (hpp m hm hne)) (fun j hj => (pk_un hj).trans (hdd j hj))
      · rw [if_neg c, if_pos (Int32.not_lt.mp c)]
        show ∃ v t1 t2 t3 t4 t5 t6 t7 t8 t9 t10 t11 t12 t13 t14 t15 t16, X6_bestPull_L53 _ _ _ _ _ _ _ _ _ _ _ _ _ fuel _ _ (nI r + 1) _ _ _ _ _ _ _ _ _ _ _ _ _ _ _ _ = _ ∧ _
        rw [nI_1]
        exact bestL S B C R hp hb hq o ah ac ad ae af ag ai aj ak al br bz bc fuel (r + 1) best most (upd pp p (nI r)) s2 c2 k2 d2 p2 (upd dd (10 + p) (nI r)) (by omega) (by omega) (fun m hm hne => (pk_un hne).trans (hpp m hm hne)) (fun j hj => (pk_un hj).trans (hdd j hj))
end BP
theorem q_codesCopy {sz : Nat} (a0 : Int32) (a1 codes : Nat → Int32) (h : sz ≤ 800) : X2_copyFrom a0 a1 (nI sz) codes = some (nI sz, va_cpy codes a1 0 0 sz) := by
  unfold X2_copyFrom
  have hc : (nI sz).toNatClampNeg = sz := nI_clamp (by omega)
  have h0 : (0 : Int32).toNatClampNeg = 0 := by decide
  rw [hc, h0, q_ck ⟨nI_pos (by omega), by omega, by omega⟩]
  rfl
theorem q_boxCopy {sz : Nat} (a0 a1 a2 a3 a4 : Int32) (a5 a6 a7 a8 : Nat → Int32) (a9 : Int32) (a10 : Nat → Int32) (bw bh bp bo br : Int32) (cells pulls holeX holeY codes : Nat → Int32) (h : sz ≤ 800) : X0_copyFrom a0 a1 a2 a3 a4 a5 a6 a7 a8 a9 a10 bw bh bp bo br cells pulls holeX holeY (nI sz) codes = some (bw, bh, bp, bo, br, va_cpy cells a5 0 0 480, va_cpy pulls a6 0 0 5, va_cpy holeX a7 0 0 4, va_cpy holeY a8 0 0 4, nI sz, va_cpy codes a10 0 0 sz) := by
  unfold X0_copyFrom
  rw [q_codesCopy a9 a10 codes h]
  rfl
section BP2
variable {w h n HN sz V LL rc : Nat} {pull hx hy : Nat → Nat} {cells pulls holeX holeY codes : Nat → Int32} {ti : Int32} {lk fa d : Nat → Int32}
theorem m_bestPull (N : ShowN w h n HN sz V LL rc pull hx hy cells pulls holeX holeY codes ti lk fa d) (t1 t2 t3 t4 t5 : Int32) (t6 t7 t8 t9 : Nat → Int32) (t10 : Int32) (t11 t12 t13 t14 t15 t16 : Nat → Int32) (p1 p2 o : Int32) :
    (∃ v u1 u2 u3 u4 u5 u6 u7 u8 u9 u10 u11 u12 u13 u14 u15 u16, X6_bestPull (nI w) (nI h) (nI n) (nI HN) (nI rc) cells pulls holeX holeY (nI sz) codes t1 t2 t3 t4 t5 t6 t7 t8 t9 t10 t11 t12 t13 t14 t15 t16 p1 p2 = some (.inr (v, u1, u2, u3, u4, u5, u6, u7, u8, u9, u10, u11, u12, u13, u14, u15, u16)) ∧ X7_bestPull o d p1 p2 = some (v, nI 0, d)) ∨
    ∃ e b, (e = 1 ∨ e = 2) ∧ X6_bestPull (nI w) (nI h) (nI n) (nI HN) (nI rc) cells pulls holeX holeY (nI sz) codes t1 t2 t3 t4 t5 t6 t7 t8 t9 t10 t11 t12 t13 t14 t15 t16 p1 p2 = some (.inl e) ∧ X7_bestPull o d p1 p2 = some (b, nI e, d) := by
  obtain ⟨⟨S, B, C, R⟩, ⟨P, D⟩, -⟩ := N
  have s1 := S.1
  have s2 := S.2.1
  have s3 := S.2.2.1
  have s4 := S.2.2.2.1
  have hsz := P.1
  unfold X6_bestPull X7_bestPull
  rcases q_reqPlane p1 s3.1 (by omega) with ⟨a, b⟩ | ⟨p, hp, rfl, a, b⟩
  · have b := b d R.2.2.1
    exact Or.inr ⟨1, nI 0, Or.inl rfl, by simp (disch := omega) only [s_lit, s_b0, s_b1, s_b2, s_b3, s_b4, s_b5, s_b6, s_x0, s_x0l, s_t1, s_nm, s_ckT, s_ld, s_st, s_clamp, nI_add, pk_mul, s_sub, s_nad, s_div, s_mod, s_rem2, s_le_t, s_le_f, s_lt_t, s_lt_f, s_eq_t, s_eq_f, s_n1, s_n2, s_n3, s_n4, s_n5, s_n6, s_n7, s_n8, s_n9, s_n10, s_n11, s_n12, s_us, s_un, s_uLs, s_uLn, ↓reduceIte, not_false_eq_true, not_true_eq_false, true_and, and_true, and_self, or_false, false_or, or_self, true_or, or_true, false_and, and_false, Int32.neg_neg, Nat.add_zero, Nat.zero_add, Nat.reduceSub, Nat.reduceAdd, Nat.reduceMul, Nat.reduceLeDiff, a], by simp (disch := omega) only [s_lit, s_b0, s_b1, s_b2, s_b3, s_b4, s_b5, s_b6, s_x0, s_x0l, s_t1, s_nm, s_ckT, s_ld, s_st, s_clamp, nI_add, pk_mul, s_sub, s_nad, s_div, s_mod, s_rem2, s_le_t, s_le_f, s_lt_t, s_lt_f, s_eq_t, s_eq_f, s_n1, s_n2, s_n3, s_n4, s_n5, s_n6, s_n7, s_n8, s_n9, s_n10, s_n11, s_n12, s_us, s_un, s_uLs, s_uLn, ↓reduceIte, not_false_eq_true, not_true_eq_false, true_and, and_true, and_self, or_false, false_or, or_self, true_or, or_true, false_and, and_false, Int32.neg_neg, Nat.add_zero, Nat.zero_add, Nat.reduceSub, Nat.reduceAdd, Nat.reduceMul, Nat.reduceLeDiff, b]⟩
  · have b := b d R.2.2.1
    rcases q_reqRange p2 0 25 (by omega) (by omega) with ⟨a2, b2⟩ | ⟨q, _, hq, rfl, a2, b2⟩
    · exact Or.inr ⟨2, nI 0, Or.inr rfl, by simp (disch := omega) only [s_lit, s_b0, s_b1, s_b2, s_b3, s_b4, s_b5, s_b6, s_x0, s_x0l, s_t1, s_nm, s_ckT, s_ld, s_st, s_clamp, nI_add, pk_mul, s_sub, s_nad, s_div, s_mod, s_rem2, s_le_t, s_le_f, s_lt_t, s_lt_f, s_eq_t, s_eq_f, s_n1, s_n2, s_n3, s_n4, s_n5, s_n6, s_n7, s_n8, s_n9, s_n10, s_n11, s_n12, s_us, s_un, s_uLs, s_uLn, ↓reduceIte, not_false_eq_true, not_true_eq_false, true_and, and_true, and_self, or_false, false_or, or_self, true_or, or_true, false_and, and_false, Int32.neg_neg, Nat.add_zero, Nat.zero_add, Nat.reduceSub, Nat.reduceAdd, Nat.reduceMul, Nat.reduceLeDiff, a, a2], by simp (disch := omega) only [s_lit, s_b0, s_b1, s_b2, s_b3, s_b4, s_b5, s_b6, s_x0, s_x0l, s_t1, s_nm, s_ckT, s_ld, s_st, s_clamp, nI_add, pk_mul, s_sub, s_nad, s_div, s_mod, s_rem2, s_le_t, s_le_f, s_lt_t, s_lt_f, s_eq_t, s_eq_f, s_n1, s_n2, s_n3, s_n4, s_n5, s_n6, s_n7, s_n8, s_n9, s_n10, s_n11, s_n12, s_us, s_un, s_uLs, s_uLn, ↓reduceIte, not_false_eq_true, not_true_eq_false, true_and, and_true, and_self, or_false, false_or, or_self, true_or, or_true, false_and, and_false, Int32.neg_neg, Nat.add_zero, Nat.zero_add, Nat.reduceSub, Nat.reduceAdd, Nat.reduceMul, Nat.reduceLeDiff, b, b2, X7_bestPull_J29, X7_fails, X7_fails_J16]⟩
    · by_cases e : p = n - 1
      · exact Or.inl ⟨nI 0, t1, t2, t3, t4, t5, t6, t7, t8, t9, t10, t11, t12, t13, t14, t15, t16, by simp (disch := omega) only [s_lit, s_b0, s_b1, s_b2, s_b3, s_b4, s_b5, s_b6, s_x0, s_x0l, s_t1, s_nm, s_ckT, s_ld, s_st, s_clamp, nI_add, pk_mul, s_sub, s_nad, s_div, s_mod, s_rem2, s_le_t, s_le_f, s_lt_t, s_lt_f, s_eq_t, s_eq_f, s_n1, s_n2, s_n3, s_n4, s_n5, s_n6, s_n7, s_n8, s_n9, s_n10, s_n11, s_n12, s_us, s_un, s_uLs, s_uLn, ↓reduceIte, not_false_eq_true, not_true_eq_false, true_and, and_true, and_self, or_false, false_or, or_self, true_or, or_true, false_and, and_false, Int32.neg_neg, Nat.add_zero, Nat.zero_add, Nat.reduceSub, Nat.reduceAdd, Nat.reduceMul, Nat.reduceLeDiff, a, a2, X0_isBack], by simp (disch := omega) only [s_lit, s_b0, s_b1, s_b2, s_b3, s_b4, s_b5, s_b6, s_x0, s_x0l, s_t1, s_nm, s_ckT, s_ld, s_st, s_clamp, nI_add, pk_mul, s_sub, s_nad, s_div, s_mod, s_rem2, s_le_t, s_le_f, s_lt_t, s_lt_f, s_eq_t, s_eq_f, s_n1, s_n2, s_n3, s_n4, s_n5, s_n6, s_n7, s_n8, s_n9, s_n10, s_n11, s_n12, s_us, s_un, s_uLs, s_uLn, ↓reduceIte, not_false_eq_true, not_true_eq_false, true_and, and_true, and_self, or_false, false_or, or_self, true_or, or_true, false_and, and_false, Int32.neg_neg, Nat.add_zero, Nat.zero_add, Nat.reduceSub, Nat.reduceAdd, Nat.reduceMul, Nat.reduceLeDiff, b, b2, X7_bestPull_J29, X7_fails, X7_fails_J16, R.2.2.1]⟩
      · obtain ⟨v, u1, u2, u3, u4, u5, u6, u7, u8, u9, u10, u11, u12, u13, u14, u15, u16, k1, k2⟩ := bestL S (B.copy (cells' := va_cpy cells t6 0 0 480) s1.2 s2.2 s3.2 s3.1 (fun m hm => s_cin hm)) (C.copy (pulls' := va_cpy pulls t7 0 0 5) (holeX' := va_cpy holeX t8 0 0 4) (holeY' := va_cpy holeY t9 0 0 4) s3.2 s4 (fun m hm => s_cin hm) (fun m hm => s_cin hm) (fun m hm => s_cin hm)) (R.copy s1.2 s2.2 s3.2 (fun m hm => s_cin hm)) hp e (show q < 26 by omega) (nI 0) (nI w) (nI n) (nI HN) (nI rc) cells pulls holeX holeY (nI sz) codes (nI rc) (nI sz) (va_cpy codes t11 0 0 sz) FU 0 (nI 0) (-nI 1) _ t12 t13 t14 t15 t16 d (by unfold FU; omega) (Nat.zero_le _) (fun m _ _ => rfl) (fun _ _ => rfl)
        refine Or.inl ⟨v, u1, u2, u3, u4, u5, u6, u7, u8, u9, u10, u11, u12, u13, u14, u15, u16, ?_, ?_⟩
        · have hib : X0_isBack (nI n) (nI p) = some (nI 0) := by
            unfold X0_isBack
            simp (disch := omega) only [s_lit, s_b0, s_b1, s_b2, s_b3, s_b4, s_b5, s_b6, s_x0, s_x0l, s_t1, s_nm, s_ckT, s_ld, s_st, s_clamp, nI_add, pk_mul, s_sub, s_nad, s_div, s_mod, s_rem2, s_le_t, s_le_f, s_lt_t, s_lt_f, s_eq_t, s_eq_f, s_n1, s_n2, s_n3, s_n4, s_n5, s_n6, s_n7, s_n8, s_n9, s_n10, s_n11, s_n12, s_us, s_un, s_uLs, s_uLn, ↓reduceIte, not_false_eq_true, not_true_eq_false, true_and, and_true, and_self, or_false, false_or, or_self, true_or, or_true, false_and, and_false, Int32.neg_neg, Nat.add_zero, Nat.zero_add, Nat.reduceSub, Nat.reduceAdd, Nat.reduceMul, Nat.reduceLeDiff]
          simp (disch := omega) only [s_lit, s_b0, s_b1, s_b2, s_b3, s_b4, s_b5, s_b6, s_x0, s_x0l, s_t1, s_nm, s_ckT, s_ld, s_st, s_clamp, nI_add, pk_mul, s_sub, s_nad, s_div, s_mod, s_rem2, s_le_t, s_le_f, s_lt_t, s_lt_f, s_eq_t, s_eq_f, s_n1, s_n2, s_n3, s_n4, s_n5, s_n6, s_n7, s_n8, s_n9, s_n10, s_n11, s_n12, s_us, s_un, s_uLs, s_uLn, ↓reduceIte, not_false_eq_true, not_true_eq_false, true_and, and_true, and_self, or_false, false_or, or_self, true_or, or_true, false_and, and_false, Int32.neg_neg, Nat.add_zero, Nat.zero_add, Nat.reduceSub, Nat.reduceAdd, Nat.reduceMul, Nat.reduceLeDiff, a, a2, hib, q_boxCopy, s_b11]
          exact k1
        · simp (disch := omega) only [s_lit, s_b0, s_b1, s_b2, s_b3, s_b4, s_b5, s_b6, s_x0, s_x0l, s_t1, s_nm, s_ckT, s_ld, s_st, s_clamp, nI_add, pk_mul, s_sub, s_nad, s_div, s_mod, s_rem2, s_le_t, s_le_f, s_lt_t, s_lt_f, s_eq_t, s_eq_f, s_n1, s_n2, s_n3, s_n4, s_n5, s_n6, s_n7, s_n8, s_n9, s_n10, s_n11, s_n12, s_us, s_un, s_uLs, s_uLn, ↓reduceIte, not_false_eq_true, not_true_eq_false, true_and, and_true, and_self, or_false, false_or, or_self, true_or, or_true, false_and, and_false, Int32.neg_neg, Nat.add_zero, Nat.zero_add, Nat.reduceSub, Nat.reduceAdd, Nat.reduceMul, Nat.reduceLeDiff, b, b2, X7_bestPull_J29, X7_fails, X7_fails_J16, R.2.2.1, R.2.2.2.2.1 p hp]
          exact k2
end BP2
