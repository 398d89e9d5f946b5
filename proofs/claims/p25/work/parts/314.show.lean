/-! PHASE 2: a show: the class's box and crowd against the reference's row -/
def ShowN (w h n HN sz V LL rc : Nat) (pull hx hy : Nat → Nat) (cells pulls holeX holeY codes : Nat → Int32) (ti : Int32) (lk fa d : Nat → Int32) : Prop :=
  (SBox w h n pull HN hx hy ∧ KBox w h n cells pull ∧ CBox n pull HN hx hy pulls holeX holeY ∧ RBox w h n cells pull HN hx hy d) ∧ (PC sz codes ∧ PAll sz codes d) ∧ (1 ≤ HN ∧ rc ≤ 9 ∧ V ≤ 20 ∧ 1 ≤ LL ∧ LL ≤ 20) ∧ (d 4 = nI rc ∧ d 5 = nI LL ∧ d 6 = ti ∧ d 7 = nI V) ∧ CInv V HN lk fa ∧ VRel V fa d
theorem RBox.congr {w h n : Nat} {cells : Nat → Int32} {pull : Nat → Nat} {HN : Nat} {hx hy : Nat → Nat} {d e : Nat → Int32} (R : RBox w h n cells pull HN hx hy d) (S : SBox w h n pull HN hx hy) (hd : ∀ j, j < 503 → j ≠ 6 → e j = d j) : RBox w h n cells pull HN hx hy e := by
  obtain ⟨r0, r1, r2, r3, r4, r5, r6⟩ := R
  obtain ⟨sw, sh, sn, sH, sp, sk⟩ := S
  refine ⟨by rw [hd _ (by omega) (by omega)]; exact r0, by rw [hd _ (by omega) (by omega)]; exact r1, by rw [hd _ (by omega) (by omega)]; exact r2, by rw [hd _ (by omega) (by omega)]; exact r3, fun p hp => by rw [hd _ (by omega) (by omega)]; exact r4 p hp, fun p hp y hy x hx => ?_, fun k hk => ?_⟩
  · have h1 : (y + 1) * w ≤ h * w := Nat.mul_le_mul_right w hy
    have h2 : h * w ≤ 8 * 12 := Nat.mul_le_mul sh.2 sw.2
    rw [Nat.succ_mul] at h1
    have h3 : w * y = y * w := Nat.mul_comm _ _
    rw [hd _ (by omega) (by omega)]
    exact r5 p hp y hy x hx
  · rw [hd _ (by omega) (by omega), hd _ (by omega) (by omega)]
    exact r6 k hk
theorem PAll.congr {sz : Nat} {codes d e : Nat → Int32} (P : PAll sz codes d) (hsz : sz ≤ 800) (hd : ∀ j, (j = 8 ∨ j = 9 ∨ (643 ≤ j ∧ j < 2243)) → e j = d j) : PAll sz codes e := by
  rcases P with ⟨h8, h⟩ | ⟨h8, h9, hc⟩
  · exact Or.inl ⟨by rw [hd 8 (by omega)]; exact h8, h⟩
  · refine Or.inr ⟨by rw [hd 8 (by omega)]; exact h8, by rw [hd 9 (by omega)]; exact h9, fun i hi => ?_⟩
    have h1 := rOf_le codes sz
    have h2 := rOf_lt codes hi
    have := hc i hi
    rw [hd (643 + rOf codes i) (by omega)]
    rcases this with ⟨o, hr⟩ | ⟨o, hv⟩
    · exact Or.inl ⟨o, hr⟩
    · have h3 : rOf codes (i + 1) ≤ rOf codes sz := by
        by_cases q : i + 1 = sz
        · rw [q]; exact Nat.le_refl _
        · exact Nat.le_of_lt (rOf_lt codes (by omega))
      rw [rOf_no o] at h3
      rw [hd (643 + rOf codes i + 1) (by omega)]
      exact Or.inr ⟨o, hv⟩
/-- the looks of the reference, when all but the crowd's cells stand -/
theorem ShowN.see {w h n HN sz V LL rc : Nat} {pull hx hy : Nat → Nat} {cells pulls holeX holeY codes : Nat → Int32} {ti : Int32} {lk fa d : Nat → Int32} (N : ShowN w h n HN sz V LL rc pull hx hy cells pulls holeX holeY codes ti lk fa d) {k : Nat} (hk : k < HN) : RSee d (nI k) (w * h) (spB w h n cells pull (hx k) (hy k)) (skB w h n cells pull (hx k) (hy k)) := RSee_of N.1.2.2.2 N.1.1 N.1.2.1 rfl hk
theorem cnB_le (w h : Nat) (sk : Nat → Nat) (q : Nat) (hw : w ≤ 12) (hh : h ≤ 8) : cnB w h sk q ≤ 96 := by
  have h1 : w * h ≤ 12 * 8 := Nat.mul_le_mul hw hh
  exact Nat.le_trans (cntN_le _ _) (by omega)
/-- what ticks take -/
theorem ShowN.ctx {w h n HN sz V LL rc : Nat} {pull hx hy : Nat → Nat} {cells pulls holeX holeY codes : Nat → Int32} {ti : Int32} {lk fa d : Nat → Int32} (N : ShowN w h n HN sz V LL rc pull hx hy cells pulls holeX holeY codes ti lk fa d) {seen counts kinds depths : Nat → Int32} (Vw : VOK w h n HN cells pull hx hy seen counts kinds depths) :
    TCtx V HN LL sz (nI h) (nI rc) holeY (PrB w h n cells pull hx hy sz codes) (fun k q => cnB w h (skB w h n cells pull (hx k) (hy k)) q) codes counts kinds depths d := by
  obtain ⟨⟨S, B, C, R⟩, ⟨P, D⟩, ⟨b1, b2, b3, b4, b5⟩, ⟨d4, d5, d6, d7⟩, I, VR⟩ := N
  have hH := S.2.2.2.1
  refine ⟨⟨fun k hk q hq prices waiting hp => ?_, fun k hk q hq => ⟨(Vw k hk).1 q hq, cnB_le w h _ q S.1.2 S.2.1.2, (PPr_spec _ _ _).1⟩⟩, fun e hs => ?_, b3, hH, b4, b5⟩
  · exact q_priceFor waiting P (by omega) hq ((Vw k hk).1 q hq) (Vw k hk).2.1 (Vw k hk).2.2.1 hp
  · have R1 : RBox w h n cells pull HN hx hy e := R.congr S (fun j h1 h2 => hs j (Or.inl h1) h2)
    have D1 : PAll sz codes e := D.congr P.1 (fun j hj => hs j (by omega) (by omega))
    refine ⟨fun k hk q hq => ?_, fun k hk => (r_holeY R1 S rfl hk).trans (by rw [(C.2 k hk).2]), (hs 1 (by omega) (by omega)).trans R.2.1, (hs 4 (by omega) (by omega)).trans d4, R1.2.2.2.1, (hs 5 (by omega) (by omega)).trans d5, (hs 7 (by omega) (by omega)).trans d7⟩
    have hsee := RSee_of R1 S B (i := nI k) rfl hk
    exact ⟨fun stack f => r_priceOf stack f P D1 (cnB_le w h _ q S.1.2 S.2.1.2) (r_showing hsee hq) (r_kindsOf hsee) (r_depthOf hsee), r_showing hsee hq⟩
/-! small ones -/
theorem cntN_congr {p q : Nat → Bool} : ∀ n : Nat, (∀ v, v < n → q v = p v) → cntN q n = cntN p n
  | 0, _ => rfl
  | n + 1, h => by
    show cntN q n + (if q n = true then 1 else 0) = cntN p n + (if p n = true then 1 else 0)
    rw [cntN_congr n (fun v hv => h v (by omega)), h n (by omega)]
theorem sumI_congr {f g : Nat → Int32} : ∀ n : Nat, (∀ v, v < n → g v = f v) → sumI g n = sumI f n
  | 0, _ => rfl
  | n + 1, h => by
    show sumI g n + g n = sumI f n + f n
    rw [sumI_congr n (fun v hv => h v (by omega)), h n (by omega)]
/-- how many viewers stand so; all that is paid -/
def stN (fa : Nat → Int32) (V : Nat) (s : Int32) : Nat := cntN (fun v => decide (fa (v * 7 + 3) = s)) V
def paidI (fa : Nat → Int32) (V : Nat) : Int32 := sumI (fun v => fa (v * 7 + 6)) V
theorem q_stN (fa : Nat → Int32) {V : Nat} (hV : V ≤ 20) (s : Int32) : X1_count (nI V) fa s = some (nI (stN fa V s)) := q_X1_count fa s hV
theorem r_stN {fa d : Nat → Int32} {V : Nat} (hV : V ≤ 20) (h7 : d 7 = nI V) (R : VRel V fa d) (s : Int32) : X7_inState d s = some (nI (stN fa V s)) := by
  rw [q_X7_inState d s hV h7]
  unfold stN
  rw [cntN_congr V (fun v hv => by rw [R v hv 3 (by omega)])]
theorem q_paidI (fa : Nat → Int32) {V : Nat} (hV : V ≤ 20) : X1_allPaid (nI V) fa = some (paidI fa V) := q_X1_allPaid fa hV
theorem r_paidL {d : Nat → Int32} {V : Nat} (hV : V ≤ 20) (h7 : d 7 = nI V) : ∀ (n i : Nat) (c : Int32), V - i < n → i ≤ V → c = sumI (fun v => d (503 + 7 * v + 6)) i → X7_paidInAll_L4 d n c (nI i) = some (sumI (fun v => d (503 + 7 * v + 6)) V)
  | 0, i, c, h, _, _ => absurd h (Nat.not_lt_zero _)
  | n + 1, i, c, h, hi, hc => by
    rw [X7_paidInAll_L4]
    by_cases e : i = V
    · subst e
      simp (disch := omega) only [s_lit, s_b0, s_b1, s_b2, s_b3, s_b4, s_b5, s_b6, s_x0, s_x0l, s_t1, s_nm, s_ckT, s_ld, s_st, s_clamp, nI_add, pk_mul, s_sub, s_nad, s_div, s_mod, s_rem2, s_le_t, s_le_f, s_lt_t, s_lt_f, s_eq_t, s_eq_f, s_n1, s_n2, s_n3, s_n4, s_n5, s_n6, s_n7, s_n8, s_n9, s_n10, s_n11, s_n12, s_us, s_un, s_uLs, s_uLn, ↓reduceIte, not_false_eq_true, not_true_eq_false, true_and, and_true, and_self, or_false, false_or, or_self, true_or, or_true, false_and, and_false, Int32.neg_neg, Nat.add_zero, Nat.zero_add, Nat.reduceSub, Nat.reduceAdd, Nat.reduceMul, Nat.reduceLeDiff, h7, hc]
    · simp (disch := omega) only [s_lit, s_b0, s_b1, s_b2, s_b3, s_b4, s_b5, s_b6, s_x0, s_x0l, s_t1, s_nm, s_ckT, s_ld, s_st, s_clamp, nI_add, pk_mul, s_sub, s_nad, s_div, s_mod, s_rem2, s_le_t, s_le_f, s_lt_t, s_lt_f, s_eq_t, s_eq_f, s_n1, s_n2, s_n3, s_n4, s_n5, s_n6, s_n7, s_n8, s_n9, s_n10, s_n11, s_n12, s_us, s_un, s_uLs, s_uLn, ↓reduceIte, not_false_eq_true, not_true_eq_false, true_and, and_true, and_self, or_false, false_or, or_self, true_or, or_true, false_and, and_false, Int32.neg_neg, Nat.add_zero, Nat.zero_add, Nat.reduceSub, Nat.reduceAdd, Nat.reduceMul, Nat.reduceLeDiff, h7, r_ofN]
      exact r_paidL hV h7 n (i + 1) _ (by omega) (by omega) (by rw [sumI_add, hc])
theorem r_paidI {fa d : Nat → Int32} {V : Nat} (hV : V ≤ 20) (h7 : d 7 = nI V) (R : VRel V fa d) : X7_paidInAll d = some (paidI fa V) := by
  unfold X7_paidInAll
  rw [show (0 : Int32) = nI 0 from rfl]
  refine (r_paidL hV h7 FU 0 (nI 0) (by unfold FU; omega) (Nat.zero_le _) rfl).trans ?_
  unfold paidI
  rw [sumI_congr V (fun v hv => by rw [R v hv 6 (by omega)])]
/-! holes that are free -/
theorem cntN_not (p : Nat → Bool) : ∀ n : Nat, cntN (fun v => !p v) n + cntN p n = n
  | 0 => rfl
  | n + 1 => by
    have := cntN_not p n
    show cntN (fun v => !p v) n + (if (!p n) = true then 1 else 0) + (cntN p n + (if p n = true then 1 else 0)) = n + 1
    cases h : p n <;> simp <;> omega
theorem cntN_swap (g : Nat → Nat → Bool) (m : Nat) : ∀ n : Nat, sumN (fun v => cntN (g v) m) n = sumN (fun k => cntN (fun v => g v k) n) m
  | 0 => by
    have : ∀ m : Nat, sumN (fun _ => cntN (fun _ => false) 0) m = 0 := fun m => by induction m with
      | zero => rfl
      | succ m ih => show sumN _ m + 0 = 0; rw [ih]
    exact (this m).symm
  | n + 1 => by
    show sumN (fun v => cntN (g v) m) n + cntN (g n) m = _
    rw [cntN_swap g m n]
    have : ∀ m : Nat, sumN (fun k => cntN (fun v => g v k) n) m + cntN (g n) m = sumN (fun k => cntN (fun v => g v k) (n + 1)) m := fun m => by
      induction m with
      | zero => rfl
      | succ m ih =>
        show sumN _ m + cntN (fun v => g v m) n + (cntN (g n) m + (if g n m = true then 1 else 0)) = sumN _ m + (cntN (fun v => g v m) n + (if g n m = true then 1 else 0))
        rw [← ih]
        omega
    exact this m
theorem cntN_zero {p : Nat → Bool} : ∀ n : Nat, (∀ v, v < n → p v = false) → cntN p n = 0
  | 0, _ => rfl
  | n + 1, h => by
    show cntN p n + (if p n = true then 1 else 0) = 0
    rw [cntN_zero n (fun v hv => h v (by omega)), h n (by omega)]
    rfl
theorem cntN_unique {p : Nat → Bool} {a : Nat} : ∀ n : Nat, a < n → p a = true → (∀ v, v < n → p v = true → v = a) → cntN p n = 1
  | 0, h, _, _ => absurd h (Nat.not_lt_zero _)
  | n + 1, h, ha, hu => by
    show cntN p n + (if p n = true then 1 else 0) = 1
    by_cases e : a = n
    · subst e
      rw [cntN_zero a (fun v hv => by
        cases q : p v with
        | false => rfl
        | true => have := hu v (by omega) q; omega), ha]
      rfl
    · rw [cntN_unique n (by omega) ha (fun v hv q => hu v (by omega) q)]
      cases q : p n with
      | false => rfl
      | true => have := hu n (by omega) q; omega
theorem cntN_sum (p : Nat → Bool) : ∀ n : Nat, sumN (fun v => if p v = true then 1 else 0) n = cntN p n
  | 0 => rfl
  | n + 1 => by
    show sumN _ n + _ = cntN p n + _
    rw [cntN_sum p n]
theorem looks_holes {V HN : Nat} {lk fa : Nat → Int32} (hV : V ≤ 20) (hH : HN ≤ 4) (I : CInv V HN lk fa) : stN fa V (nI 1) = cntN (fun k => !decide (lk k = -nI 1)) HN := by
  have h := cntN_swap (fun v k => decide (fa (v * 7 + 3) = nI 1 ∧ fa (v * 7 + 4) = nI k)) HN V
  have h1 : sumN (fun v => cntN (fun k => decide (fa (v * 7 + 3) = nI 1 ∧ fa (v * 7 + 4) = nI k)) HN) V = stN fa V (nI 1) := by
    unfold stN
    rw [← cntN_sum]
    refine sumN_same V (fun v hv => ?_)
    by_cases c : fa (v * 7 + 3) = nI 1
    · rcases (I.1 v hv).2.2.2.2 with ⟨_, k, t, hk, e4, _⟩ | ⟨h3, _⟩
      · rw [cntN_unique (a := k) HN hk (decide_eq_true ⟨c, e4⟩) (fun k' hk' q => by
          have q := of_decide_eq_true q
          rw [e4] at q
          exact (nI_inj (by omega) (by omega) q.2).symm), decide_eq_true c]
        rfl
      · rw [c] at h3
        simp (disch := omega) only [s_eq_f, or_self] at h3
    · rw [cntN_zero HN (fun k _ => decide_eq_false (fun q => c q.1)), decide_eq_false c]
      rfl
  have h2 : sumN (fun k => cntN (fun v => decide (fa (v * 7 + 3) = nI 1 ∧ fa (v * 7 + 4) = nI k)) V) HN = cntN (fun k => !decide (lk k = -nI 1)) HN := by
    rw [← cntN_sum]
    refine sumN_same HN (fun k hk => ?_)
    have hone : ∀ v, v < V → fa (v * 7 + 3) = nI 1 ∧ fa (v * 7 + 4) = nI k → lk k = nI v := fun v hv q => by
      rcases (I.1 v hv).2.2.2.2 with ⟨_, k', t, hk', e4, el, _⟩ | ⟨h3, _⟩
      · rw [q.2] at e4
        rw [nI_inj (by omega) (by omega) e4]; exact el
      · rw [q.1] at h3
        simp (disch := omega) only [s_eq_f, or_self] at h3
    rcases I.2 k hk with hl | ⟨v, hv, hl, u2, u3⟩
    · rw [cntN_zero V (fun v hv => decide_eq_false (fun q => by
        have := hone v hv q
        rw [hl] at this
        simp (disch := omega) only [s_n6] at this)), decide_eq_true hl]
      rfl
    · rw [cntN_unique (a := v) V hv (decide_eq_true ⟨u2, u3⟩) (fun v' hv' q => by
        have := hone v' hv' (of_decide_eq_true q)
        rw [hl] at this
        exact (nI_inj (by omega) (by omega) this).symm), decide_eq_false (by rw [hl]; simp (disch := omega) only [s_n5, not_false_eq_true])]
      rfl
  rw [← h1, h, h2]
theorem r_freeL {V HN : Nat} {lk fa d : Nat → Int32} (hV : V ≤ 20) (R : VRel V fa d) (I : CInv V HN lk fa) (h7 : d 7 = nI V) (h3 : d 3 = nI HN) (hH : HN ≤ 4) : ∀ (n i c : Nat), HN - i < n → i ≤ HN → c = cntN (fun k => decide (lk k = -nI 1)) i → X7_freeHoles_L4 d n (nI c) (nI i) = some (nI (cntN (fun k => decide (lk k = -nI 1)) HN))
  | 0, i, c, h, _, _ => absurd h (Nat.not_lt_zero _)
  | n + 1, i, c, h, hi, hc => by
    rw [X7_freeHoles_L4]
    by_cases e : i = HN
    · subst e
      simp (disch := omega) only [s_lit, s_b0, s_b1, s_b2, s_b3, s_b4, s_b5, s_b6, s_x0, s_x0l, s_t1, s_nm, s_ckT, s_ld, s_st, s_clamp, nI_add, pk_mul, s_sub, s_nad, s_div, s_mod, s_rem2, s_le_t, s_le_f, s_lt_t, s_lt_f, s_eq_t, s_eq_f, s_n1, s_n2, s_n3, s_n4, s_n5, s_n6, s_n7, s_n8, s_n9, s_n10, s_n11, s_n12, s_us, s_un, s_uLs, s_uLn, ↓reduceIte, not_false_eq_true, not_true_eq_false, true_and, and_true, and_self, or_false, false_or, or_self, true_or, or_true, false_and, and_false, Int32.neg_neg, Nat.add_zero, Nat.zero_add, Nat.reduceSub, Nat.reduceAdd, Nat.reduceMul, Nat.reduceLeDiff, h3, hc]
    · have hl := r_lookerAt hV R I h7 (show i < HN by omega) hH
      have hs : cntN (fun k => decide (lk k = -nI 1)) (i + 1) = cntN (fun k => decide (lk k = -nI 1)) i + (if lk i = -nI 1 then 1 else 0) := by
        show _ + (if decide (lk i = -nI 1) = true then 1 else 0) = _
        by_cases q : lk i = -nI 1 <;> simp [q]
      by_cases q : lk i = -nI 1
      · rw [q] at hl
        simp (disch := omega) only [s_lit, s_b0, s_b1, s_b2, s_b3, s_b4, s_b5, s_b6, s_x0, s_x0l, s_t1, s_nm, s_ckT, s_ld, s_st, s_clamp, nI_add, pk_mul, s_sub, s_nad, s_div, s_mod, s_rem2, s_le_t, s_le_f, s_lt_t, s_lt_f, s_eq_t, s_eq_f, s_n1, s_n2, s_n3, s_n4, s_n5, s_n6, s_n7, s_n8, s_n9, s_n10, s_n11, s_n12, s_us, s_un, s_uLs, s_uLn, ↓reduceIte, not_false_eq_true, not_true_eq_false, true_and, and_true, and_self, or_false, false_or, or_self, true_or, or_true, false_and, and_false, Int32.neg_neg, Nat.add_zero, Nat.zero_add, Nat.reduceSub, Nat.reduceAdd, Nat.reduceMul, Nat.reduceLeDiff, h3, hl, X7_freeHoles_J29]
        exact r_freeL hV R I h7 h3 hH n (i + 1) (c + 1) (by omega) (by omega) (by rw [hs, if_pos q, hc])
      · simp (disch := omega) only [s_lit, s_b0, s_b1, s_b2, s_b3, s_b4, s_b5, s_b6, s_x0, s_x0l, s_t1, s_nm, s_ckT, s_ld, s_st, s_clamp, nI_add, pk_mul, s_sub, s_nad, s_div, s_mod, s_rem2, s_le_t, s_le_f, s_lt_t, s_lt_f, s_eq_t, s_eq_f, s_n1, s_n2, s_n3, s_n4, s_n5, s_n6, s_n7, s_n8, s_n9, s_n10, s_n11, s_n12, s_us, s_un, s_uLs, s_uLn, ↓reduceIte, not_false_eq_true, not_true_eq_false, true_and, and_true, and_self, or_false, false_or, or_self, true_or, or_true, false_and, and_false, Int32.neg_neg, Nat.add_zero, Nat.zero_add, Nat.reduceSub, Nat.reduceAdd, Nat.reduceMul, Nat.reduceLeDiff, h3, hl, q, X7_freeHoles_J29]
        exact r_freeL hV R I h7 h3 hH n (i + 1) c (by omega) (by omega) (by rw [hs, if_neg q, hc]; rfl)
theorem r_freeHoles {V HN : Nat} {lk fa d : Nat → Int32} (hV : V ≤ 20) (R : VRel V fa d) (I : CInv V HN lk fa) (h7 : d 7 = nI V) (h3 : d 3 = nI HN) (hH : HN ≤ 4) : X7_freeHoles d = some (nI HN - nI (stN fa V (nI 1))) := by
  unfold X7_freeHoles
  rw [show (0 : Int32) = nI 0 from rfl]
  refine (r_freeL hV R I h7 h3 hH FU 0 0 (by unfold FU; omega) (Nat.zero_le _) rfl).trans ?_
  have h1 := cntN_not (fun k => decide (lk k = -nI 1)) HN
  rw [looks_holes hV hH I, pk_sub (by omega)]
  exact congrArg some (congrArg nI (by omega))
