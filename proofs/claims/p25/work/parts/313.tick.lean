/-! PHASE 2: the crowd: a tick, both sides -/
/-- all that a tick takes and does not change -/
def TCtx (V HN LL sz : Nat) (hI rI : Int32) (holeY : Nat → Int32) (Pf Cf : Nat → Nat → Nat) (codes counts kinds depths d0 : Nat → Int32) : Prop :=
  CAsk HN Pf Cf sz codes counts kinds depths ∧ (∀ d, Sm d0 d → RAsk V HN LL hI rI holeY Pf Cf d) ∧ V ≤ 20 ∧ HN ≤ 4 ∧ 1 ≤ LL ∧ LL ≤ 20
/-- all that it changes -/
def TRel (V HN : Nat) (Pf : Nat → Nat → Nat) (d0 : Nat → Int32) (ti : Int32) (lookers facts prices data : Nat → Int32) : Prop :=
  CInv V HN lookers facts ∧ VRel V facts data ∧ Sm d0 data ∧ data 6 = ti ∧ PCa HN Pf prices
theorem CInv.own {V HN v : Nat} {lookers l1 facts f1 : Nat → Int32} {x2 x3 x4 x5 x6 : Int32} (I : CInv V HN lookers facts) (O : Own facts f1 v x2 x3 x4 x5 x6) (hx2 : ∃ a, a ≤ 999 ∧ x2 = nI a) (hx6 : ∃ a, a ≤ 999 ∧ x6 = nI a)
    (hst : (x3 = nI 1 ∧ ∃ k t, k < HN ∧ x4 = nI k ∧ l1 k = nI v ∧ 1 ≤ t ∧ t ≤ 20 ∧ x5 = nI t) ∨ ((x3 = nI 0 ∨ x3 = nI 2 ∨ x3 = nI 3) ∧ x4 = -nI 1 ∧ x5 = nI 0))
    (hl : ∀ u, u < V → u ≠ v → ∀ k, k < HN → lookers k = nI u → l1 k = nI u) (hL : ∀ k, k < HN → l1 k = -nI 1 ∨ ∃ u, u < V ∧ l1 k = nI u ∧ f1 (u * 7 + 3) = nI 1 ∧ f1 (u * 7 + 4) = nI k) : CInv V HN l1 f1 := by
  refine ⟨fun u hu => ?_, hL⟩
  obtain ⟨a0, a1, a2, a6, a3⟩ := I.1 u hu
  by_cases e : u = v
  · subst e
    obtain ⟨o0, o2, o3, o4, o5, o6⟩ := O
    refine ⟨?_, ?_, ?_, ?_, ?_⟩
    · rw [o0 _ (by omega) (by omega) (by omega) (by omega) (by omega)]; exact a0
    · rw [o0 _ (by omega) (by omega) (by omega) (by omega) (by omega)]; exact a1
    · rw [o2]; exact hx2
    · rw [o6]; exact hx6
    · rw [o3, o4, o5]; exact hst
  · have q0 := O.other e (k := 0) (by omega)
    rw [Nat.add_zero] at q0
    refine ⟨by rw [q0]; exact a0, by rw [O.other e (by omega)]; exact a1, by rw [O.other e (by omega)]; exact a2, by rw [O.other e (by omega)]; exact a6, ?_⟩
    rw [O.other e (k := 3) (by omega), O.other e (k := 4) (by omega), O.other e (k := 5) (by omega)]
    rcases a3 with ⟨h3, k, t, hk, h4, hlk, t1, t2, h5⟩ | h
    · exact Or.inl ⟨h3, k, t, hk, h4, hl u hu e k hk hlk, t1, t2, h5⟩
    · exact Or.inr h
theorem ne01 : ¬ nI 0 = nI 1 := by decide +kernel
theorem nI_inj {a b : Nat} (ha : a < 2 ^ 31) (hb : b < 2 ^ 31) (h : nI a = nI b) : a = b := (nI_eq ha hb).mp h
/-- how much is still to come: 21 for one who waits, the ticks of one who looks -/
def mv (f : Nat → Int32) (v : Nat) : Nat := if f (v * 7 + 3) = nI 0 then 21 else if f (v * 7 + 3) = nI 1 then (f (v * 7 + 5)).toNatClampNeg else 0
def Mm (f : Nat → Int32) (V : Nat) : Nat := sumN (mv f) V
theorem sumN_same {f g : Nat → Nat} : ∀ n : Nat, (∀ u, u < n → g u = f u) → sumN g n = sumN f n
  | 0, _ => rfl
  | n + 1, h => by
    show sumN g n + g n = sumN f n + f n
    rw [sumN_same n (fun u hu => h u (by omega)), h n (by omega)]
theorem sumN_one {f g : Nat → Nat} {v : Nat} : ∀ n : Nat, v < n → (∀ u, u < n → u ≠ v → g u = f u) → sumN g n + f v = sumN f n + g v
  | 0, h, _ => absurd h (Nat.not_lt_zero _)
  | n + 1, h, hs => by
    show sumN g n + g n + f v = sumN f n + f n + g v
    by_cases e : v = n
    · subst e
      rw [sumN_same v (fun u hu => hs u (by omega) (by omega))]
      omega
    · have := sumN_one n (show v < n by omega) (fun u hu hne => hs u (by omega) hne)
      rw [hs n (by omega) (fun q => e q.symm)]
      omega
theorem Mm_own {V v : Nat} {f f1 : Nat → Int32} {x2 x3 x4 x5 x6 : Int32} (O : Own f f1 v x2 x3 x4 x5 x6) (hv : v < V) : Mm f1 V + mv f v = Mm f V + (if x3 = nI 0 then 21 else if x3 = nI 1 then x5.toNatClampNeg else 0) := by
  have h := sumN_one (f := mv f) (g := mv f1) V hv (fun u _ hne => by unfold mv; rw [O.other hne (by omega), O.other hne (by omega)])
  have h2 : mv f1 v = (if x3 = nI 0 then 21 else if x3 = nI 1 then x5.toNatClampNeg else 0) := by
    unfold mv
    rw [O.2.2.1, O.2.2.2.2.1]
  rw [← h2]
  exact h
theorem look_both {V HN LL sz : Nat} {hI rI : Int32} {holeY : Nat → Int32} {Pf Cf : Nat → Nat → Nat} {codes counts kinds depths d0 : Nat → Int32} (T : TCtx V HN LL sz hI rI holeY Pf Cf codes counts kinds depths d0) {ti : Int32} {lookers facts prices data : Nat → Int32} (I : TRel V HN Pf d0 ti lookers facts prices data) {v : Nat} (hv : v < V) (h3 : facts (v * 7 + 3) = nI 1) (waiting : Nat → Int32) (stack : Nat → Int64) (fc : Nat → Int32) :
    ∃ l1 f1 w1 p1 d1 s1 g1, X1_lookOn lookers facts (nI sz) codes waiting counts kinds depths prices (nI v) = some (l1, f1, w1, p1) ∧ X7_look data stack fc (nI v) = some (d1, s1, g1) ∧ TRel V HN Pf d0 ti l1 f1 p1 d1 ∧ Mm f1 V < Mm facts V ∧ (∀ u, u < V → facts (u * 7 + 3) = nI 0 → f1 (u * 7 + 3) = nI 0) ∧ (∀ u, u < V → u ≠ v → f1 (u * 7 + 3) = facts (u * 7 + 3)) ∧ ∀ k, k < HN → lookers k = -nI 1 → l1 k = -nI 1 := by
  obtain ⟨A, RA, hV, hH, L1, L2⟩ := T
  obtain ⟨C, R, S, ht, P⟩ := I
  obtain ⟨⟨a0, b0, e0⟩, ⟨q, hq, e1⟩, ⟨c, hc, e2⟩, ⟨pp, hpp, e6⟩, hd⟩ := C.1 v hv
  rcases hd with ⟨-, k, t, hk, e4, el, t1, t2, e5⟩ | ⟨h, -⟩
  · obtain ⟨l1, f1, w1, p1, k1, k2, k3⟩ := q_lookOn A waiting (show v < 20 by omega) hH hk hq hc t1 t2 e1 e2 e4 e5 P
    have hpb := (A.2 k hk q hq).2.2
    obtain ⟨d1, s1, g1, j1, j2⟩ := r_look RA S stack fc (show v < 20 by omega) hk hq hc hpb t1 t2 ((R v hv 1 (by omega)).trans e1) ((R v hv 2 (by omega)).trans e2) ((R v hv 4 (by omega)).trans e4) ((R v hv 5 (by omega)).trans e5)
    refine ⟨l1, f1, w1, p1, d1, s1, g1, k1, j1, ?_⟩
    have hmv : mv facts v = t := by
      unfold mv
      rw [h3, if_neg (fun z => ne01 z.symm), if_pos rfl, e5, nI_clamp (by omega)]
    rcases k3 with ⟨q1, q2, O⟩ | ⟨q1, q2, O⟩ <;> rcases j2 with ⟨z1, D⟩ | ⟨z1, D⟩
    · rw [R v hv 3 (by omega), R v hv 6 (by omega)] at D
      have hM := Mm_own O hv
      rw [h3, if_neg (fun z => ne01 z.symm), if_pos rfl, nI_clamp (by omega), hmv] at hM
      refine ⟨⟨C.own O ⟨c, hc, rfl⟩ ⟨pp, hpp, e6⟩ (Or.inl ⟨h3, k, t - 1, hk, rfl, by rw [q2]; exact el, by omega, by omega, rfl⟩) (fun u _ _ k' _ hu => by rw [q2]; exact hu) (fun k' hk' => ?_), O.rel R D, S.trans (D.sm (by omega)), D.time.trans ht, k2⟩, by omega, fun u hu hz => ?_, fun u hu hne => O.other hne (by omega), fun k' hk' hz => by rw [q2]; exact hz⟩
      · rw [q2]
        rcases C.2 k' hk' with h | ⟨u, hu, u1, u2, u3⟩
        · exact Or.inl h
        · refine Or.inr ⟨u, hu, u1, ?_⟩
          by_cases e : u = v
          · subst e
            rw [O.2.2.1, O.2.2.2.1, h3]
            exact ⟨rfl, e4.symm.trans u3⟩
          · rw [O.other e (by omega), O.other e (by omega)]; exact ⟨u2, u3⟩
      · by_cases e : u = v
        · subst e; exact absurd (hz.symm.trans h3) ne01
        · rw [O.other e (by omega)]; exact hz
    · omega
    · omega
    · have hM := Mm_own O hv
      rw [if_neg (by decide +kernel), if_neg (by decide +kernel), hmv] at hM
      have hmin1 : min (Pf k q) c ≤ c := Nat.min_le_right _ _
      have hmin2 : min (Pf k q) c ≤ Pf k q := Nat.min_le_left _ _
      refine ⟨⟨C.own O ⟨_, by omega, rfl⟩ ⟨_, by omega, rfl⟩ (Or.inr ⟨Or.inr (Or.inl rfl), rfl, rfl⟩) (fun u hu hne k' hk' hz => ?_) (fun k' hk' => ?_), O.rel R D, S.trans (D.sm (by omega)), D.time.trans ht, k2⟩, by omega, fun u hu hz => ?_, fun u hu hne => O.other hne (by omega), fun k' hk' hz => ?_⟩
      · rw [q2, pk_un (fun ek => ?_)]
        · exact hz
        · rw [ek, el] at hz
          exact hne (nI_inj (by omega) (by omega) hz).symm
      · rw [q2]
        by_cases ek : k' = k
        · rw [ek, pk_us]; exact Or.inl rfl
        · rw [pk_un ek]
          rcases C.2 k' hk' with h | ⟨u, hu, u1, u2, u3⟩
          · exact Or.inl h
          · refine Or.inr ⟨u, hu, u1, ?_⟩
            have e : u ≠ v := fun e => by
              subst e
              rw [e4] at u3
              exact ek (nI_inj (by omega) (by omega) u3).symm
            rw [O.other e (by omega), O.other e (by omega)]; exact ⟨u2, u3⟩
      · by_cases e : u = v
        · subst e; exact absurd (hz.symm.trans h3) ne01
        · rw [O.other e (by omega)]; exact hz
      · rw [q2]
        by_cases ek : k' = k
        · rw [ek, pk_us]
        · rw [pk_un ek]; exact hz
  · rw [h3] at h
    simp (disch := omega) only [s_eq_f, or_self] at h
theorem choose_both {V HN LL sz : Nat} {hI rI : Int32} {holeY : Nat → Int32} {Pf Cf : Nat → Nat → Nat} {codes counts kinds depths d0 : Nat → Int32} (T : TCtx V HN LL sz hI rI holeY Pf Cf codes counts kinds depths d0) {ti : Int32} {lookers facts prices data : Nat → Int32} (I : TRel V HN Pf d0 ti lookers facts prices data) {v : Nat} (hv : v < V) (h3 : facts (v * 7 + 3) = nI 0) (waiting : Nat → Int32) (stack : Nat → Int64) (fc : Nat → Int32) :
    ∃ l1 f1 w1 p1 d1 s1 g1, X1_choose (nI LL) lookers facts hI (nI HN) rI holeY (nI sz) codes waiting counts kinds depths prices (nI v) = some (l1, f1, w1, p1) ∧ X7_choose data stack fc (nI v) = some (d1, s1, g1) ∧ TRel V HN Pf d0 ti l1 f1 p1 d1 ∧ Mm f1 V ≤ Mm facts V ∧ ((∀ k, k < HN → lookers k = -nI 1) → Mm f1 V < Mm facts V) := by
  obtain ⟨A, RA, hV, hH, L1, L2⟩ := T
  obtain ⟨C, R, S, ht, P⟩ := I
  obtain ⟨⟨a0, b0, e0⟩, ⟨q, hq, e1⟩, ⟨c, hc, e2⟩, ⟨pp, hpp, e6⟩, hd⟩ := C.1 v hv
  rcases hd with ⟨h, -⟩ | ⟨-, e4, e5⟩
  · exact absurd (h3.symm.trans h) ne01
  · obtain ⟨l1, f1, w1, p1, d1, s1, g1, k1, k2, k3, k4⟩ := chooseL A (RA data S) hV hH R C hv hq hc e1 e2 h3 e4 e5 FU 0 0 (-nI 1) (-nI 1) (nI 0) waiting prices stack fc (by unfold FU; omega) (Nat.zero_le _) ⟨by omega, Or.inl ⟨rfl, rfl, fun z => absurd z (by omega)⟩⟩ P
    refine ⟨l1, f1, w1, p1, d1, s1, g1, ?_, ?_, ?_⟩
    · unfold X1_choose
      rw [q_b1 (show X1_fact facts (nI v) 1 = some (nI q) from by rw [← e1]; exact q_factN (k := 1) facts (by omega) (by omega))]
      exact k1
    · unfold X7_choose
      exact k2
    · have hmv : mv facts v = 21 := by unfold mv; rw [if_pos h3]
      rcases k4 with ⟨q1, O, D⟩ | ⟨q1, q2, q3, k, hk, hne⟩ | ⟨b, hb, hlb, q1, O, D⟩
      · have hM := Mm_own O hv
        rw [if_neg (by decide +kernel), if_neg (by decide +kernel), hmv] at hM
        refine ⟨⟨C.own O ⟨c, hc, e2⟩ ⟨pp, hpp, e6⟩ (Or.inr ⟨Or.inr (Or.inr rfl), rfl, rfl⟩) (fun u _ _ k' _ hu => by rw [q1]; exact hu) (fun k' hk' => ?_), O.rel R D, S.trans (D.sm (by omega)), D.time.trans ht, k3⟩, by omega, fun _ => by omega⟩
        rw [q1]
        rcases C.2 k' hk' with h | ⟨u, hu, u1, u2, u3⟩
        · exact Or.inl h
        · refine Or.inr ⟨u, hu, u1, ?_⟩
          have e : u ≠ v := fun e => by subst e; exact ne01 (h3.symm.trans u2)
          rw [O.other e (by omega), O.other e (by omega)]; exact ⟨u2, u3⟩
      · rw [q1, q2, q3]
        exact ⟨⟨C, R, S, ht, k3⟩, Nat.le_refl _, fun hz => absurd (hz k hk) hne⟩
      · have hM := Mm_own O hv
        rw [if_neg (by decide +kernel), if_pos rfl, nI_clamp (by omega), hmv] at hM
        refine ⟨⟨C.own O ⟨c, hc, e2⟩ ⟨pp, hpp, e6⟩ (Or.inl ⟨rfl, b, LL, hb, rfl, by rw [q1, pk_us], L1, L2, rfl⟩) (fun u hu hne k' hk' hz => ?_) (fun k' hk' => ?_), O.rel R D, S.trans (D.sm (by omega)), D.time.trans ht, k3⟩, by omega, fun _ => by omega⟩
        · rw [q1, pk_un (fun ek => ?_)]
          · exact hz
          · rw [ek, hlb] at hz
            simp (disch := omega) only [s_n6] at hz
        · rw [q1]
          by_cases ek : k' = b
          · rw [ek, pk_us]; exact Or.inr ⟨v, hv, rfl, O.2.2.1, O.2.2.2.1⟩
          · rw [pk_un ek]
            rcases C.2 k' hk' with h | ⟨u, hu, u1, u2, u3⟩
            · exact Or.inl h
            · refine Or.inr ⟨u, hu, u1, ?_⟩
              have e : u ≠ v := fun e => by subst e; exact ne01 (h3.symm.trans u2)
              rw [O.other e (by omega), O.other e (by omega)]; exact ⟨u2, u3⟩
theorem tickL2 {V HN LL sz : Nat} {hI rI : Int32} {holeY : Nat → Int32} {Pf Cf : Nat → Nat → Nat} {codes counts kinds depths d0 : Nat → Int32} (T : TCtx V HN LL sz hI rI holeY Pf Cf codes counts kinds depths d0) {ti : Int32} : ∀ (fuel i : Nat) (lookers facts prices data waiting : Nat → Int32) (stack : Nat → Int64) (fc : Nat → Int32), V - i < fuel → i ≤ V → TRel V HN Pf d0 ti lookers facts prices data →
    ∃ l1 f1 w1 p1 d1 s1 g1, X1_tick_L35 (nI V) (nI LL) ti hI (nI HN) rI holeY (nI sz) codes counts kinds depths fuel (nI i) lookers facts waiting prices = some (ti + 1, l1, f1, w1, p1) ∧ X7_tick_L36 fuel (nI i) data stack fc = some (d1, s1, g1) ∧ TRel V HN Pf d0 (ti + 1) l1 f1 p1 d1 ∧ Mm f1 V ≤ Mm facts V ∧ ((∃ v, i ≤ v ∧ v < V ∧ facts (v * 7 + 3) = nI 0) → (∀ k, k < HN → lookers k = -nI 1) → Mm f1 V < Mm facts V)
  | 0, i, _, _, _, _, _, _, _, h0, _, _ => absurd h0 (Nat.not_lt_zero _)
  | fuel + 1, i, lookers, facts, prices, data, waiting, stack, fc, h0, hi, I => by
    have hV := T.2.2.1
    have h7 : data 7 = nI V := (T.2.1 data I.2.2.1).2.2.2.2.2.2
    rw [X1_tick_L35, X7_tick_L36]
    by_cases e : i = V
    · subst e
      obtain ⟨C, R, S, ht, P⟩ := I
      refine ⟨lookers, facts, waiting, prices, upd data 6 (ti + 1), stack, fc, if_pos (nI_le (Nat.le_refl _) (by omega)), ?_, ⟨C, fun v hv k hk => ?_, fun j h1 h2 => ?_, pk_us, P⟩, Nat.le_refl _, fun ⟨v, h1, h2, _⟩ => absurd h2 (by omega)⟩
      · simp (disch := omega) only [s_lit, s_b0, s_b1, s_b2, s_b3, s_b4, s_b5, s_b6, s_x0, s_x0l, s_t1, s_nm, s_ckT, s_ld, s_st, s_clamp, nI_add, pk_mul, s_sub, s_nad, s_div, s_mod, s_rem2, s_le_t, s_le_f, s_lt_t, s_lt_f, s_eq_t, s_eq_f, s_n1, s_n2, s_n3, s_n4, s_n5, s_n6, s_n7, s_n8, s_n9, s_n10, s_n11, s_n12, s_us, s_un, s_uLs, s_uLn, ↓reduceIte, not_false_eq_true, not_true_eq_false, true_and, and_true, and_self, or_false, false_or, or_self, true_or, or_true, false_and, and_false, Int32.neg_neg, Nat.add_zero, Nat.zero_add, Nat.reduceSub, Nat.reduceAdd, Nat.reduceMul, Nat.reduceLeDiff, h7, ht]
      · rw [pk_un (by omega)]; exact R v hv k hk
      · rw [pk_un h2]; exact S j h1 h2
    · have hi' : i < V := by omega
      have g3 := (I.2.1 i hi' 3 (by omega))
      by_cases c : facts (i * 7 + 3) = nI 0
      · obtain ⟨l1, f1, w1, p1, d1, s1, g1, k1, k2, k3, k4, k5⟩ := choose_both T I hi' c waiting stack fc
        obtain ⟨l2, f2, w2, p2, d2, s2, g2, j1, j2, j3, j4, j5⟩ := tickL2 T fuel (i + 1) l1 f1 p1 d1 w1 s1 g1 (by omega) (by omega) k3
        refine ⟨l2, f2, w2, p2, d2, s2, g2, ?_, ?_, j3, Nat.le_trans j4 k4, fun _ hz => Nat.lt_of_le_of_lt j4 (k5 hz)⟩
        · rw [if_neg (nI_ge hi' (by omega)), q_b1 (show X1_fact facts (nI i) 3 = some (nI 0) from by rw [← c]; exact q_factN (k := 3) facts (by omega) (by omega)), if_pos (show nI 0 = 0 from rfl), q_b4 k1]
          show X1_tick_L35 _ _ _ _ _ _ _ _ _ _ _ _ fuel (nI i + 1) _ _ _ _ = _
          rw [nI_1]; exact j1
        · rw [q_ld (i := (7 : Int32)) data 7 _ rfl (by omega) (by omega), h7, if_neg (nI_ge hi' (by omega)), q_b1 (show X7_of data (nI i) 3 = some (nI 0) from by rw [← c, ← g3]; exact r_ofN (k := 3) data (by omega) (by omega)), if_pos (show nI 0 = 0 from rfl), q_b3 k2]
          show X7_tick_L36 fuel (nI i + 1) _ _ _ = _
          rw [nI_1]; exact j2
      · obtain ⟨l2, f2, w2, p2, d2, s2, g2, j1, j2, j3, j4, j5⟩ := tickL2 T fuel (i + 1) lookers facts prices data waiting stack fc (by omega) (by omega) I
        refine ⟨l2, f2, w2, p2, d2, s2, g2, ?_, ?_, j3, j4, fun ⟨v, h1, h2, h3⟩ hz => j5 ⟨v, ?_, h2, h3⟩ hz⟩
        · rw [if_neg (nI_ge hi' (by omega)), q_b1 (show X1_fact facts (nI i) 3 = some (facts (i * 7 + 3)) from q_factN (k := 3) facts (by omega) (by omega)), if_neg (show ¬ facts (i * 7 + 3) = 0 from c)]
          show X1_tick_L35 _ _ _ _ _ _ _ _ _ _ _ _ fuel (nI i + 1) _ _ _ _ = _
          rw [nI_1]; exact j1
        · rw [q_ld (i := (7 : Int32)) data 7 _ rfl (by omega) (by omega), h7, if_neg (nI_ge hi' (by omega)), q_b1 (show X7_of data (nI i) 3 = some (facts (i * 7 + 3)) from by rw [← g3]; exact r_ofN (k := 3) data (by omega) (by omega)), if_neg (show ¬ facts (i * 7 + 3) = 0 from c)]
          show X7_tick_L36 fuel (nI i + 1) _ _ _ = _
          rw [nI_1]; exact j2
        · by_cases ev : v = i
          · rw [ev] at h3; exact absurd h3 c
          · omega
theorem tickL1 {V HN LL sz : Nat} {hI rI : Int32} {holeY : Nat → Int32} {Pf Cf : Nat → Nat → Nat} {codes counts kinds depths d0 : Nat → Int32} (T : TCtx V HN LL sz hI rI holeY Pf Cf codes counts kinds depths d0) {ti : Int32} : ∀ (fuel i : Nat) (lookers facts prices data waiting : Nat → Int32) (stack : Nat → Int64) (fc : Nat → Int32), V - i < fuel → i ≤ V → TRel V HN Pf d0 ti lookers facts prices data →
    ∃ l1 f1 w1 p1 d1 s1 g1, X1_tick_L2 (nI V) (nI LL) ti hI (nI HN) rI holeY (nI sz) codes counts kinds depths fuel (nI i) lookers facts waiting prices = X1_tick_L35 (nI V) (nI LL) ti hI (nI HN) rI holeY (nI sz) codes counts kinds depths FU (nI 0) l1 f1 w1 p1 ∧ X7_tick_L2 fuel (nI i) data stack fc = X7_tick_L36 FU (nI 0) d1 s1 g1 ∧ TRel V HN Pf d0 ti l1 f1 p1 d1 ∧ Mm f1 V ≤ Mm facts V ∧ ((∃ v, i ≤ v ∧ v < V ∧ facts (v * 7 + 3) = nI 1) → Mm f1 V < Mm facts V) ∧ (∀ u, u < V → facts (u * 7 + 3) = nI 0 → f1 (u * 7 + 3) = nI 0) ∧ ∀ k, k < HN → lookers k = -nI 1 → l1 k = -nI 1
  | 0, i, _, _, _, _, _, _, _, h0, _, _ => absurd h0 (Nat.not_lt_zero _)
  | fuel + 1, i, lookers, facts, prices, data, waiting, stack, fc, h0, hi, I => by
    have hV := T.2.2.1
    have h7 : data 7 = nI V := (T.2.1 data I.2.2.1).2.2.2.2.2.2
    rw [X1_tick_L2, X7_tick_L2]
    by_cases e : i = V
    · subst e
      refine ⟨lookers, facts, waiting, prices, data, stack, fc, if_pos (nI_le (Nat.le_refl _) (by omega)), ?_, I, Nat.le_refl _, fun ⟨v, h1, h2, _⟩ => absurd h2 (by omega), fun _ _ h => h, fun _ _ h => h⟩
      rw [q_ld (i := (7 : Int32)) data 7 _ rfl (by omega) (by omega), h7]
      exact if_pos (nI_le (Nat.le_refl _) (by omega))
    · have hi' : i < V := by omega
      have g3 := (I.2.1 i hi' 3 (by omega))
      by_cases c : facts (i * 7 + 3) = nI 1
      · obtain ⟨l1, f1, w1, p1, d1, s1, g1, k1, k2, k3, k4, k5, k6, k7⟩ := look_both T I hi' c waiting stack fc
        obtain ⟨l2, f2, w2, p2, d2, s2, g2, j1, j2, j3, j4, j5, j6, j7⟩ := tickL1 T fuel (i + 1) l1 f1 p1 d1 w1 s1 g1 (by omega) (by omega) k3
        refine ⟨l2, f2, w2, p2, d2, s2, g2, ?_, ?_, j3, Nat.le_trans j4 (Nat.le_of_lt k4), fun _ => Nat.lt_of_le_of_lt j4 k4, fun u hu hz => j6 u hu (k5 u hu hz), fun k hk hz => j7 k hk (k7 k hk hz)⟩
        · rw [if_neg (nI_ge hi' (by omega)), q_b1 (show X1_fact facts (nI i) 3 = some (nI 1) from by rw [← c]; exact q_factN (k := 3) facts (by omega) (by omega)), if_pos (show nI 1 = 1 from rfl), q_b4 k1]
          show X1_tick_L2 _ _ _ _ _ _ _ _ _ _ _ _ fuel (nI i + 1) _ _ _ _ = _
          rw [nI_1]; exact j1
        · rw [q_ld (i := (7 : Int32)) data 7 _ rfl (by omega) (by omega), h7, if_neg (nI_ge hi' (by omega)), q_b1 (show X7_of data (nI i) 3 = some (nI 1) from by rw [← c, ← g3]; exact r_ofN (k := 3) data (by omega) (by omega)), if_pos (show nI 1 = 1 from rfl), q_b3 k2]
          show X7_tick_L2 fuel (nI i + 1) _ _ _ = _
          rw [nI_1]; exact j2
      · obtain ⟨l2, f2, w2, p2, d2, s2, g2, j1, j2, j3, j4, j5, j6, j7⟩ := tickL1 T fuel (i + 1) lookers facts prices data waiting stack fc (by omega) (by omega) I
        refine ⟨l2, f2, w2, p2, d2, s2, g2, ?_, ?_, j3, j4, fun ⟨v, h1, h2, h3⟩ => j5 ⟨v, ?_, h2, h3⟩, j6, j7⟩
        · rw [if_neg (nI_ge hi' (by omega)), q_b1 (show X1_fact facts (nI i) 3 = some (facts (i * 7 + 3)) from q_factN (k := 3) facts (by omega) (by omega)), if_neg (show ¬ facts (i * 7 + 3) = 1 from c)]
          show X1_tick_L2 _ _ _ _ _ _ _ _ _ _ _ _ fuel (nI i + 1) _ _ _ _ = _
          rw [nI_1]; exact j1
        · rw [q_ld (i := (7 : Int32)) data 7 _ rfl (by omega) (by omega), h7, if_neg (nI_ge hi' (by omega)), q_b1 (show X7_of data (nI i) 3 = some (facts (i * 7 + 3)) from by rw [← g3]; exact r_ofN (k := 3) data (by omega) (by omega)), if_neg (show ¬ facts (i * 7 + 3) = 1 from c)]
          show X7_tick_L2 fuel (nI i + 1) _ _ _ = _
          rw [nI_1]; exact j2
        · by_cases ev : v = i
          · rw [ev] at h3; exact absurd h3 c
          · omega
theorem tick_both {V HN LL sz : Nat} {hI rI : Int32} {holeY : Nat → Int32} {Pf Cf : Nat → Nat → Nat} {codes counts kinds depths d0 : Nat → Int32} (T : TCtx V HN LL sz hI rI holeY Pf Cf codes counts kinds depths d0) {ti : Int32} {lookers facts prices data : Nat → Int32} (I : TRel V HN Pf d0 ti lookers facts prices data) (waiting : Nat → Int32) (stack : Nat → Int64) (fc : Nat → Int32) :
    ∃ l1 f1 w1 p1 d1 s1 g1, X1_tick (nI V) (nI LL) ti lookers facts hI (nI HN) rI holeY (nI sz) codes waiting counts kinds depths prices = some (ti + 1, l1, f1, w1, p1) ∧ X7_tick data stack fc = some (d1, s1, g1) ∧ TRel V HN Pf d0 (ti + 1) l1 f1 p1 d1 ∧ Mm f1 V ≤ Mm facts V ∧ ((∃ v, v < V ∧ (facts (v * 7 + 3) = nI 0 ∨ facts (v * 7 + 3) = nI 1)) → Mm f1 V < Mm facts V) := by
  have hV := T.2.2.1
  obtain ⟨l1, f1, w1, p1, d1, s1, g1, k1, k2, k3, k4, k5, k6, k7⟩ := tickL1 T FU 0 lookers facts prices data waiting stack fc (by unfold FU; omega) (Nat.zero_le _) I
  obtain ⟨l2, f2, w2, p2, d2, s2, g2, j1, j2, j3, j4, j5⟩ := tickL2 T FU 0 l1 f1 p1 d1 w1 s1 g1 (by unfold FU; omega) (Nat.zero_le _) k3
  refine ⟨l2, f2, w2, p2, d2, s2, g2, k1.trans j1, k2.trans j2, j3, Nat.le_trans j4 k4, fun ⟨v, hv, hb⟩ => ?_⟩
  by_cases hl : ∃ u, u < V ∧ facts (u * 7 + 3) = nI 1
  · obtain ⟨u, hu, h1⟩ := hl
    exact Nat.lt_of_le_of_lt j4 (k5 ⟨u, Nat.zero_le _, hu, h1⟩)
  · have hall : ∀ k, k < HN → lookers k = -nI 1 := fun k hk => by
      rcases I.1.2 k hk with h | ⟨u, hu, _, u2, _⟩
      · exact h
      · exact absurd ⟨u, hu, u2⟩ hl
    rcases hb with h | h
    · exact Nat.lt_of_lt_of_le (j5 ⟨v, Nat.zero_le _, hv, k6 v hv h⟩ (fun k hk => k7 k hk (hall k hk))) k4
    · exact absurd ⟨v, hv, h⟩ hl
