/-! PHASE 2: prices. Both sides run one string of codes over a stack; the class's codes are the measure -/
def opc (c : Int32) : Bool := decide (c < -nI 4)
/-- where the reference's codes stand, and how high the stack is, after i codes -/
def rOf (codes : Nat → Int32) : Nat → Nat
  | 0 => 0
  | i + 1 => rOf codes i + (if opc (codes i) = true then 1 else 2)
def hOf (codes : Nat → Int32) : Nat → Nat
  | 0 => 0
  | i + 1 => if opc (codes i) = true then hOf codes i - 1 else hOf codes i + 1
theorem rOf_op {codes : Nat → Int32} {i : Nat} (h : opc (codes i) = true) : rOf codes (i + 1) = rOf codes i + 1 := by show _ + (if _ then _ else _) = _; rw [if_pos h]
theorem rOf_no {codes : Nat → Int32} {i : Nat} (h : opc (codes i) = false) : rOf codes (i + 1) = rOf codes i + 2 := by show _ + (if _ then _ else _) = _; rw [if_neg (by rw [h]; decide)]
theorem hOf_op {codes : Nat → Int32} {i : Nat} (h : opc (codes i) = true) : hOf codes (i + 1) = hOf codes i - 1 := if_pos h
theorem hOf_no {codes : Nat → Int32} {i : Nat} (h : opc (codes i) = false) : hOf codes (i + 1) = hOf codes i + 1 := if_neg (by rw [h]; decide)
theorem rOf_lt (codes : Nat → Int32) : ∀ {i j : Nat}, i < j → rOf codes i < rOf codes j := by
  intro i j h
  induction j with
  | zero => omega
  | succ j ih =>
    have hs : rOf codes j < rOf codes (j + 1) := by
      show rOf codes j < rOf codes j + (if _ then 1 else 2)
      split <;> omega
    by_cases e : i = j
    · rw [e]; exact hs
    · exact Nat.lt_trans (ih (by omega)) hs
theorem rOf_le (codes : Nat → Int32) : ∀ i : Nat, rOf codes i ≤ 2 * i
  | 0 => Nat.le_refl 0
  | i + 1 => by
    have := rOf_le codes i
    show rOf codes i + (if _ then 1 else 2) ≤ 2 * (i + 1)
    split <;> omega
/-- the limit of a number, as the class takes it -/
def limC (x : Int64) (lo hi : Int32) : Int32 := (if (if x < hi.toInt64 then x else hi.toInt64) < lo.toInt64 then lo.toInt64 else (if x < hi.toInt64 then x else hi.toInt64)).toInt32
theorem q_limited (x : Int64) (lo hi : Int32) : X6_limited x lo hi = some (limC x lo hi) := rfl
theorem i64_rt {x : Int64} (h1 : -2147483648 ≤ x.toInt) (h2 : x.toInt < 2147483648) : x.toInt32.toInt64 = x := Int64.toInt_inj.mp (by
  rw [Int32.toInt_toInt64, Int64.toInt_toInt32]
  exact Int.bmod_eq_of_le (by omega) (by omega))
theorem limC_R (x : Int64) : X7_limited x = some (limC x (-1000000) 1000000).toInt64 := by
  have a1 : ((1000000 : Int32).toInt64).toInt = 1000000 := by decide +kernel
  have a2 : ((-1000000 : Int32).toInt64).toInt = -1000000 := by decide +kernel
  have b1 : (1000000 : Int64).toInt = 1000000 := by decide +kernel
  have b2 : (-1000000 : Int64).toInt = -1000000 := by decide +kernel
  unfold X7_limited limC
  by_cases h1 : x ≤ 1000000
  · rw [if_pos ((lg_cmp_le _ _).mpr h1)]
    rw [Int64.le_iff_toInt_le, b1] at h1
    have e1 : (if x < (1000000 : Int32).toInt64 then x else (1000000 : Int32).toInt64) = x := by
      by_cases q : x < (1000000 : Int32).toInt64
      · exact if_pos q
      · rw [if_neg q]
        rw [Int64.lt_iff_toInt_lt, a1] at q
        exact Int64.toInt_inj.mp (by rw [a1]; omega)
    rw [e1]
    by_cases h2 : (-1000000 : Int64) ≤ x
    · rw [if_pos ((lg_cmp_ge _ _).mpr h2)]
      rw [Int64.le_iff_toInt_le, b2] at h2
      rw [if_neg (fun q => by rw [Int64.lt_iff_toInt_lt, a2] at q; omega), i64_rt (by omega) (by omega)]
    · rw [if_neg (fun q => h2 ((lg_cmp_ge _ _).mp q))]
      rw [Int64.le_iff_toInt_le, b2] at h2
      rw [if_pos (show x < (-1000000 : Int32).toInt64 by rw [Int64.lt_iff_toInt_lt, a2]; omega)]
      exact congrArg some (by decide +kernel)
  · rw [if_neg (fun q => h1 ((lg_cmp_le _ _).mp q))]
    rw [Int64.le_iff_toInt_le, b1] at h1
    rw [if_neg (show ¬ x < (1000000 : Int32).toInt64 from fun q => by rw [Int64.lt_iff_toInt_lt, a1] at q; omega)]
    exact congrArg some (by decide +kernel)
/-- one operation -/
def comb (c a b : Int32) : Int32 := ((X2_combine (-c) a.toInt64 b.toInt64).getD 0)
def OpR (c d : Int32) : Prop := (c = -nI 43 ∧ d = nI 2) ∨ (c = -nI 45 ∧ d = nI 3) ∨ (c = -nI 42 ∧ d = nI 4) ∨ (c = -nI 47 ∧ d = nI 5)
theorem comb_both {c d : Int32} (h : OpR c d) (a b : Int32) : X2_combine (-c) a.toInt64 b.toInt64 = some (comb c a b) ∧ X7_operate d a.toInt64 b.toInt64 = some (comb c a b).toInt64 := by
  have key : ∀ z : Int32, X2_combine (-c) a.toInt64 b.toInt64 = some z → X7_operate d a.toInt64 b.toInt64 = some z.toInt64 → X2_combine (-c) a.toInt64 b.toInt64 = some (comb c a b) ∧ X7_operate d a.toInt64 b.toInt64 = some (comb c a b).toInt64 := by
    intro z h1 h2
    have : comb c a b = z := by unfold comb; rw [h1]; rfl
    rw [this]
    exact ⟨h1, h2⟩
  rcases h with ⟨e1, e2⟩ | ⟨e1, e2⟩ | ⟨e1, e2⟩ | ⟨e1, e2⟩
  · refine key (limC (a.toInt64 + b.toInt64) (-1000000) 1000000) ?_ ?_
    · rw [e1]; rfl
    · rw [e2]
      show bn1 (X7_limited _) _ = _
      rw [limC_R]; rfl
  · refine key (limC (a.toInt64 - b.toInt64) (-1000000) 1000000) ?_ ?_
    · rw [e1]; rfl
    · rw [e2]
      show bn1 (X7_limited _) _ = _
      rw [limC_R]; rfl
  · refine key (limC (a.toInt64 * b.toInt64) (-1000000) 1000000) ?_ ?_
    · rw [e1]; rfl
    · rw [e2]
      show bn1 (X7_limited _) _ = _
      rw [limC_R]; rfl
  · by_cases hb : b.toInt64 = 0
    · refine key 0 ?_ ?_
      · rw [e1]
        show bn1 (X6_quotient a.toInt64 b.toInt64) _ = _
        unfold X6_quotient
        rw [if_pos ((lg_cmp_eq _ _).mpr hb)]
        exact congrArg some (by decide +kernel)
      · rw [e2]
        show (if (lg_cmp b.toInt64 0) = 0 then _ else _) = _
        rw [if_pos ((lg_cmp_eq _ _).mpr hb)]
        exact congrArg some (by decide +kernel)
    · refine key (limC (a.toInt64 / b.toInt64) (-1000000) 1000000) ?_ ?_
      · rw [e1]
        show bn1 (X6_quotient a.toInt64 b.toInt64) _ = _
        unfold X6_quotient
        rw [if_neg (fun q => hb ((lg_cmp_eq _ _).mp q)), q_ck hb]
        rfl
      · rw [e2]
        show (if (lg_cmp b.toInt64 0) = 0 then _ else _) = _
        rw [if_neg (fun q => hb ((lg_cmp_eq _ _).mp q)), q_ck hb, limC_R]
        rfl
/-- an operand's value, by the four facts of a look -/
def opnd (vs : Nat → Int32) (c : Int32) : Int32 := if c = -nI 4 then vs 3 else if c = -nI 3 then vs 2 else if c = -nI 2 then vs 1 else if c = -nI 1 then vs 0 else c
theorem q_operand (vs : Nat → Int32) (c : Int32) : X2_operand c (vs 0) (vs 1) (vs 2) (vs 3) = some (opnd vs c) := by
  unfold X2_operand opnd
  by_cases h4 : c = -nI 4
  · rw [if_pos h4]; exact if_pos h4
  · rw [if_neg h4]
    refine (if_neg h4).trans ?_
    by_cases h3 : c = -nI 3
    · rw [if_pos h3]; exact if_pos h3
    · rw [if_neg h3]
      refine (if_neg h3).trans ?_
      by_cases h2 : c = -nI 2
      · rw [if_pos h2]; exact if_pos h2
      · rw [if_neg h2]
        refine (if_neg h2).trans ?_
        by_cases h1 : c = -nI 1
        · rw [if_pos h1]; exact if_pos h1
        · rw [if_neg h1]; exact if_neg h1
/-- the stack after i codes -/
def stk (codes : Nat → Int32) (vs : Nat → Int32) : Nat → Nat → Int32
  | 0 => fun _ => 0
  | i + 1 => if opc (codes i) = true then upd (stk codes vs i) (hOf codes i - 2) (comb (codes i) (stk codes vs i (hOf codes i - 2)) (stk codes vs i (hOf codes i - 1))) else upd (stk codes vs i) (hOf codes i) (opnd vs (codes i))
theorem stk_op {codes vs : Nat → Int32} {i : Nat} (h : opc (codes i) = true) : stk codes vs (i + 1) = upd (stk codes vs i) (hOf codes i - 2) (comb (codes i) (stk codes vs i (hOf codes i - 2)) (stk codes vs i (hOf codes i - 1))) := if_pos h
theorem stk_no {codes vs : Nat → Int32} {i : Nat} (h : opc (codes i) = false) : stk codes vs (i + 1) = upd (stk codes vs i) (hOf codes i) (opnd vs (codes i)) := if_neg (by rw [h]; decide)
/-- the class's codes are a sum in the order of a stack -/
def PC (sz : Nat) (codes : Nat → Int32) : Prop := sz ≤ 800 ∧ 1 ≤ hOf codes sz ∧ ∀ i, i < sz → (opc (codes i) = true ∧ 2 ≤ hOf codes i ∧ ∃ d, OpR (codes i) d) ∨ (opc (codes i) = false ∧ hOf codes i < 16)
theorem opc_f {c : Int32} (h : opc c = false) : -nI 4 ≤ c := Int32.not_lt.mp (of_decide_eq_false h)
theorem opc_t {c : Int32} (h : opc c = true) : ¬ -nI 4 ≤ c := Int32.not_le.mpr (of_decide_eq_true h)
theorem PC_h {sz : Nat} {codes : Nat → Int32} (P : PC sz codes) : ∀ i, i ≤ sz → hOf codes i ≤ 16
  | 0, _ => Nat.zero_le _
  | i + 1, hi => by
    have := PC_h P i (by omega)
    rcases P.2.2 i (by omega) with ⟨o, -, -⟩ | ⟨o, h⟩
    · rw [hOf_op o]; omega
    · rw [hOf_no o]; omega
theorem q_valueL {sz : Nat} {codes vs : Nat → Int32} (P : PC sz codes) : ∀ (fuel i : Nat) (waiting : Nat → Int32), sz - i < fuel → i ≤ sz → (∀ j, j < hOf codes i → waiting j = stk codes vs i j) → ∃ w1, X2_value_L6 (nI sz) codes (vs 0) (vs 1) (vs 2) (vs 3) fuel (nI (hOf codes i)) (nI i) waiting = some (stk codes vs sz 0, w1)
  | 0, i, _, h0, _, _ => absurd h0 (Nat.not_lt_zero _)
  | fuel + 1, i, waiting, h0, hi, hw => by
    have hsz := P.1
    have hh := PC_h P i hi
    rw [X2_value_L6]
    by_cases e : i = sz
    · subst e
      have := P.2.1
      exact ⟨waiting, (if_pos (nI_le (Nat.le_refl _) (by omega))).trans ((q_ld (i := (0 : Int32)) waiting 0 _ rfl (by omega) (by omega)).trans (by rw [hw 0 (by omega)]))⟩
    · have hi' : i < sz := by omega
      rw [if_neg (nI_ge hi' (by omega)), q_ld codes i _ rfl (by omega) (by omega)]
      rcases P.2.2 i hi' with ⟨o, h2, d, hd⟩ | ⟨o, h16⟩
      · rw [if_neg (show ¬ (-4 : Int32) ≤ codes i from opc_t o), if_neg (show ¬ nI (hOf codes i) < 2 from nI_nlt (b := 2) h2 (by omega))]
        have ht : nI (hOf codes i) + -1 = nI (hOf codes i - 1) := s_nad (b := 1) (by omega)
        have ht2 : nI (hOf codes i - 1) - 1 = nI (hOf codes i - 2) := (pk_sub (b := 1) (by omega)).trans (by rw [show hOf codes i - 1 - 1 = hOf codes i - 2 by omega])
        rw [q_nm, ht, ht2, q_ld waiting (hOf codes i - 2) _ rfl (by omega) (by omega), q_ld waiting (hOf codes i - 1) _ rfl (by omega) (by omega), hw _ (by omega), hw _ (by omega), q_b1 (comb_both hd _ _).1, q_st _ (hOf codes i - 2) _ rfl (by omega) (by omega), nI_clamp (by omega)]
        rw [X2_value_J103, q_nm, nI_1, ← hOf_op o]
        refine q_valueL P fuel (i + 1) _ (by omega) (by omega) (fun j hj => ?_)
        rw [hOf_op o] at hj
        rw [stk_op o]
        by_cases ej : j = hOf codes i - 2
        · rw [ej, pk_us, pk_us, hOf_op o]
        · rw [pk_un ej, pk_un ej, hw j (by omega)]
      · rw [if_pos (show (-4 : Int32) ≤ codes i from opc_f o), if_neg (show ¬ (16 : Int32) ≤ nI (hOf codes i) from nI_ge (b := 16) h16 (by omega)), q_b1 (q_operand vs (codes i)), q_st _ (hOf codes i) _ rfl (by omega) (by omega), nI_clamp (by omega)]
        rw [q_nm, X2_value_J103, q_nm, nI_1, nI_1, ← hOf_no o]
        refine q_valueL P fuel (i + 1) _ (by omega) (by omega) (fun j hj => ?_)
        rw [hOf_no o] at hj
        rw [stk_no o]
        by_cases ej : j = hOf codes i
        · rw [ej, pk_us, pk_us]
        · rw [pk_un ej, pk_un ej, hw j (by omega)]
theorem q_value {sz : Nat} {codes : Nat → Int32} (P : PC sz codes) (vs waiting : Nat → Int32) : ∃ w1, X2_value (nI sz) codes waiting (vs 0) (vs 1) (vs 2) (vs 3) = some (stk codes vs sz 0, w1) := by
  unfold X2_value
  exact q_valueL P FU 0 waiting (by have := P.1; unfold FU; omega) (Nat.zero_le _) (fun j hj => absurd hj (Nat.not_lt_zero _))
/-- the reference's codes are the class's, turned -/
def CodeR (c d0 d1 : Int32) : Prop := (opc c = true ∧ OpR c d0) ∨ (opc c = false ∧ ((∃ v, v ≤ 9999 ∧ c = nI v ∧ d0 = nI 0 ∧ d1 = nI v) ∨ ∃ k, k < 4 ∧ c = -nI (k + 1) ∧ d0 = nI 1 ∧ d1 = nI k))
def PD (sz : Nat) (codes data : Nat → Int32) : Prop := data 9 = nI (rOf codes sz) ∧ ∀ i, i < sz → CodeR (codes i) (data (643 + rOf codes i)) (data (643 + rOf codes i + 1))
theorem OpR_d {c d : Int32} (h : OpR c d) : ∃ o, 2 ≤ o ∧ o ≤ 5 ∧ d = nI o := by
  rcases h with ⟨-, e⟩ | ⟨-, e⟩ | ⟨-, e⟩ | ⟨-, e⟩
  · exact ⟨2, by omega, by omega, e⟩
  · exact ⟨3, by omega, by omega, e⟩
  · exact ⟨4, by omega, by omega, e⟩
  · exact ⟨5, by omega, by omega, e⟩
theorem opnd_v (vs : Nat → Int32) {v : Nat} (h : v ≤ 9999) : opnd vs (nI v) = nI v := by
  unfold opnd
  simp (disch := omega) only [s_n5, ↓reduceIte]
theorem opnd_k (vs : Nat → Int32) : ∀ k, k < 4 → opnd vs (-nI (k + 1)) = vs k
  | 0, _ => by unfold opnd; simp (disch := omega) only [s_n7, s_n8, ↓reduceIte]
  | 1, _ => by unfold opnd; simp (disch := omega) only [s_n7, s_n8, ↓reduceIte]
  | 2, _ => by unfold opnd; simp (disch := omega) only [s_n7, s_n8, ↓reduceIte]
  | 3, _ => by unfold opnd; simp (disch := omega) only [s_n7, s_n8, ↓reduceIte]
  | k + 4, h => absurd h (by omega)
/-- the price of a value -/
def prc (z : Int32) : Int32 := limC z.toInt64 0 999
theorem prc_R (z : Int32) : ∃ p, p ≤ 999 ∧ prc z = nI p ∧ ∀ {β : Type} (k : Int32 → Option β), (bn1 (X7_min (999 : Int32) z.toInt64.toInt32) fun r10 => bn1 (X7_max (0 : Int32) r10) k) = k (nI p) := by
  have a1 : ((999 : Int32).toInt64).toInt = 999 := by decide +kernel
  have a2 : ((0 : Int32).toInt64).toInt = 0 := by decide +kernel
  have b1 : (999 : Int32).toInt = 999 := by decide +kernel
  have b2 : (0 : Int32).toInt = 0 := by decide +kernel
  rw [Int32.toInt32_toInt64]
  unfold prc limC X7_min X7_max
  by_cases h1 : z ≤ 999
  · rw [if_pos h1]
    rw [Int32.le_iff_toInt_le, b1] at h1
    have e1 : (if z.toInt64 < (999 : Int32).toInt64 then z.toInt64 else (999 : Int32).toInt64) = z.toInt64 := by
      by_cases q : z.toInt64 < (999 : Int32).toInt64
      · exact if_pos q
      · rw [if_neg q]
        rw [Int64.lt_iff_toInt_lt, a1, Int32.toInt_toInt64] at q
        exact Int64.toInt_inj.mp (by rw [a1, Int32.toInt_toInt64]; omega)
    rw [e1]
    by_cases h2 : z < 0
    · refine ⟨0, by omega, ?_, fun k => ?_⟩
      · rw [if_pos (show z.toInt64 < (0 : Int32).toInt64 from by rw [Int64.lt_iff_toInt_lt, a2, Int32.toInt_toInt64]; rw [Int32.lt_iff_toInt_lt, b2] at h2; exact h2)]
        decide +kernel
      · show bn1 (if (0 : Int32) ≤ z then _ else _) k = _
        rw [if_neg (fun q => by rw [Int32.lt_iff_toInt_lt] at h2; rw [Int32.le_iff_toInt_le] at q; omega)]
        rfl
    · obtain ⟨j, hj, rfl⟩ := nI_of h2
      rw [nI_toInt hj] at h1
      refine ⟨j, by omega, ?_, fun k => ?_⟩
      · rw [if_neg (fun q => by rw [Int64.lt_iff_toInt_lt, a2, Int32.toInt_toInt64, nI_toInt hj] at q; omega), Int32.toInt32_toInt64]
      · show bn1 (if (0 : Int32) ≤ nI j then _ else _) k = _
        rw [if_pos (nI_pos' hj)]
        rfl
  · rw [if_neg h1]
    rw [Int32.le_iff_toInt_le, b1] at h1
    refine ⟨999, by omega, ?_, fun k => rfl⟩
    rw [if_neg (show ¬ z.toInt64 < (999 : Int32).toInt64 from fun q => by rw [Int64.lt_iff_toInt_lt, a1, Int32.toInt_toInt64] at q; omega)]
    decide +kernel
theorem r_priceL {sz : Nat} {codes vs data facts : Nat → Int32} (P : PC sz codes) (D : PD sz codes data) (hf : ∀ k, k < 4 → facts k = vs k) (p1 p2 : Int32) {p : Nat} (hp : ∀ {β : Type} (k : Int32 → Option β), (bn1 (X7_min (999 : Int32) (stk codes vs sz 0).toInt64.toInt32) fun r10 => bn1 (X7_max (0 : Int32) r10) k) = k (nI p)) : ∀ (fuel i : Nat) (stack : Nat → Int64), sz - i < fuel → i ≤ sz → (∀ j, j < hOf codes i → stack j = (stk codes vs i j).toInt64) → ∃ s1, X7_priceOf_L72 data p1 p2 fuel (nI (hOf codes i)) (nI (rOf codes i)) stack facts = some (nI p, s1, facts)
  | 0, i, _, h0, _, _ => absurd h0 (Nat.not_lt_zero _)
  | fuel + 1, i, stack, h0, hi, hw => by
    have hsz := P.1
    have hh := PC_h P i hi
    have hrs := rOf_le codes sz
    rw [X7_priceOf_L72, q_ld (i := (9 : Int32)) data 9 _ rfl (by omega) (by omega), D.1]
    by_cases e : i = sz
    · subst e
      have := P.2.1
      refine ⟨stack, (if_pos (nI_le (Nat.le_refl _) (by omega))).trans ((q_ld (i := (0 : Int32)) stack 0 _ rfl (by omega) (by omega)).trans ?_)⟩
      rw [hw 0 (by omega)]
      exact hp _
    · have hi' : i < sz := by omega
      have hr1 := rOf_lt codes hi'
      rw [if_neg (nI_ge hr1 (by omega)), q_ld data (643 + rOf codes i) _ (by rw [q_lit, nI_add]) (by omega) (by omega)]
      have hD := D.2 i hi'
      rcases P.2.2 i hi' with ⟨o, h2, -, -⟩ | ⟨o, h16⟩
      · rcases hD with ⟨-, hd⟩ | ⟨o', -⟩
        · obtain ⟨oo, o2, o5, eo⟩ := OpR_d hd
          rw [if_pos (show (1 : Int32) < data (643 + rOf codes i) from by rw [eo]; exact nI_lt (a := 1) (show 1 < oo by omega) (by omega))]
          have ht : nI (hOf codes i) + -1 = nI (hOf codes i - 1) := s_nad (b := 1) (by omega)
          have ht2 : nI (hOf codes i - 1) - 1 = nI (hOf codes i - 2) := (pk_sub (b := 1) (by omega)).trans (by rw [show hOf codes i - 1 - 1 = hOf codes i - 2 by omega])
          rw [q_nm, ht, ht2, q_ld stack (hOf codes i - 2) _ rfl (by omega) (by omega), q_ld stack (hOf codes i - 1) _ rfl (by omega) (by omega), hw _ (by omega), hw _ (by omega), q_b1 (comb_both hd _ _).2]
          rw [q_st _ (hOf codes i - 2) _ rfl (by omega) (by omega), nI_clamp (by omega)]
          rw [X7_priceOf_J185, q_nm, nI_1, ← hOf_op o, ← rOf_op o]
          refine r_priceL P D hf p1 p2 hp fuel (i + 1) _ (by omega) (by omega) (fun j hj => ?_)
          rw [hOf_op o] at hj
          rw [stk_op o]
          by_cases ej : j = hOf codes i - 2
          · rw [ej, pk_us, pk_uLs, hOf_op o]
          · rw [pk_un ej, pk_uLn ej, hw j (by omega)]
        · rw [o] at o'; cases o'
      · have hr2 := rOf_no o
        have hr3 := rOf_lt codes (Nat.lt_succ_self i)
        have hr4 : rOf codes (i + 1) ≤ rOf codes sz := by
          by_cases q : i + 1 = sz
          · rw [q]; exact Nat.le_refl _
          · exact Nat.le_of_lt (rOf_lt codes (by omega))
        rcases hD with ⟨o', -⟩ | ⟨-, hv⟩
        · rw [o] at o'; cases o'
        · have hgo : ∀ z : Int32, z = opnd vs (codes i) → ∃ s1, X7_priceOf_J148 data p1 p2 (fun z0 z1 z2 z3 => X7_priceOf_L72 data p1 p2 fuel z0 z1 z2 z3) (nI (hOf codes i)) (nI (rOf codes i) + 1) (nI (hOf codes i)) z.toInt64 stack facts = some (nI p, s1, facts) := by
            intro z hz
            unfold X7_priceOf_J148
            rw [q_st _ (hOf codes i) _ rfl (by omega) (by omega), nI_clamp (by omega)]
            rw [q_nm, X7_priceOf_J185, q_nm, nI_1, nI_1, nI_1, ← hOf_no o, show rOf codes i + 1 + 1 = rOf codes (i + 1) by omega]
            refine r_priceL P D hf p1 p2 hp fuel (i + 1) _ (by omega) (by omega) (fun j hj => ?_)
            rw [hOf_no o] at hj
            rw [stk_no o]
            by_cases ej : j = hOf codes i
            · rw [ej, pk_us, pk_uLs, hz]
            · rw [pk_un ej, pk_uLn ej, hw j (by omega)]
          have hix : (643 : Int32) + (nI (rOf codes i) + 1) = nI (643 + rOf codes i + 1) := by rw [q_lit, nI_1, nI_add]; rfl
          rcases hv with ⟨v, hv1, hv2, hv3, hv4⟩ | ⟨k, hk1, hk2, hk3, hk4⟩
          · rw [hv3, if_neg (show ¬ (1 : Int32) < nI 0 from nI_nlt (a := 1) (by omega) (by omega)), q_nm, if_pos (show nI 0 = 0 from rfl), q_ld data _ _ hix (by omega) (by omega), hv4]
            exact hgo (nI v) (by rw [hv2, opnd_v vs hv1])
          · rw [hk3, if_neg (show ¬ (1 : Int32) < nI 1 from nI_nlt (a := 1) (b := 1) (by omega) (by omega)), q_nm, if_neg (nI_ne0 (by omega) (by omega)), q_ld data _ _ hix (by omega) (by omega), hk4, q_ld facts k _ rfl (by omega) (by omega), hf k hk1]
            exact hgo (vs k) (by rw [hk2, opnd_k vs k hk1])
