/-! PHASE 2: numbers. What a step of a pure program is when its number is known -/
theorem q_nm {α β : Type} (x : α) (k : α → β) : nm x k = k x := rfl
theorem q_bn0 {β : Type} (z : Unit) (k : Unit → Option β) : bn0 (some z) k = k () := rfl
theorem q_bn1 {A0 β : Type} (z : A0) (k : A0 → Option β) : bn1 (some z) k = k z := rfl
theorem q_ck {β : Type} {c : Prop} [Decidable c] (h : c) (k : Option β) : ck c k = k := if_pos h
theorem q_ld {α β : Type} (a : Nat → α) {N : Nat} {i : Int32} (n : Nat) (k : α → Option β) (hi : i = nI n) (h : n < N) (hN : N < 2 ^ 31) : ld a N i k = k (a n) := by
  subst hi
  unfold ld
  rw [if_neg (fun q => q.elim (nI_pos (by omega)) (fun q => by rw [nI_clamp (by omega)] at q; omega)), nI_clamp (by omega)]
theorem q_st {α β : Type} (a : Nat → α) {N : Nat} {i : Int32} (n : Nat) (k : (Nat → α) → Option β) (hi : i = nI n) (h : n < N) (hN : N < 2 ^ 31) : st N i a k = k a := by
  subst hi
  unfold st
  rw [if_neg (fun q => q.elim (nI_pos (by omega)) (fun q => by rw [nI_clamp (by omega)] at q; omega))]
/-- sums and products of small numbers -/
theorem q_mc (a : Nat) (b : Nat) {x y : Int32} (hx : x = nI a) (hy : y = nI b) : x * y = nI (a * b) := by rw [hx, hy, pk_mul]
theorem q_ac (a : Nat) (b : Nat) {x y : Int32} (hx : x = nI a) (hy : y = nI b) : x + y = nI (a + b) := by rw [hx, hy, nI_add]
theorem q_sc (a : Nat) (b : Nat) {x y : Int32} (h : b ≤ a) (hx : x = nI a) (hy : y = nI b) : x - y = nI (a - b) := by rw [hx, hy, pk_sub h]
/-- how many of the first n hold -/
def cntN (p : Nat → Bool) : Nat → Nat
  | 0 => 0
  | n + 1 => cntN p n + (if p n then 1 else 0)
theorem cntN_le (p : Nat → Bool) : ∀ n, cntN p n ≤ n
  | 0 => Nat.le_refl 0
  | n + 1 => by
    have := cntN_le p n
    show cntN p n + (if p n then 1 else 0) ≤ n + 1
    split <;> omega
/-- the sum of the first n -/
def sumI (f : Nat → Int32) : Nat → Int32
  | 0 => 0
  | n + 1 => sumI f n + f n
theorem q_lit (n : Nat) : (OfNat.ofNat n : Int32) = nI n := rfl
theorem q_b0 {β : Type} {x : Option Unit} {k : Unit → Option β} (h : x = some ()) : bn0 x k = k () := by rw [h]; rfl
theorem q_b1 {A0 β : Type} {x : Option A0} {z : A0} {k : A0 → Option β} (h : x = some z) : bn1 x k = k z := by rw [h]; rfl
theorem q_b2 {A0 A1 β : Type} {x : Option (A0 × A1)} {a : A0} {b : A1} {k : A0 → A1 → Option β} (h : x = some (a, b)) : bn2 x k = k a b := by rw [h]; rfl
theorem q_b3 {A0 A1 A2 β : Type} {x : Option (A0 × A1 × A2)} {a : A0} {b : A1} {c : A2} {k : A0 → A1 → A2 → Option β} (h : x = some (a, b, c)) : bn3 x k = k a b c := by rw [h]; rfl
theorem q_fact (facts : Nat → Int32) {v k : Nat} {x y : Int32} (hx : x = nI v) (hy : y = nI k) (hv : v < 20) (hk : k < 7) : X1_fact facts x y = some (facts (v * 7 + k)) := by
  unfold X1_fact
  exact q_ld facts (v * 7 + k) _ (by rw [hx, hy, q_lit, pk_mul, nI_add]) (by omega) (by omega)
theorem q_count (facts : Nat → Int32) (st : Int32) {V : Nat} (hV : V ≤ 20) : ∀ (n i c : Nat), V - i < n → i ≤ V → c = cntN (fun v => decide (facts (v * 7 + 3) = st)) i → X1_count_L4 (nI V) facts st n (nI c) (nI i) = some (nI (cntN (fun v => decide (facts (v * 7 + 3) = st)) V))
  | 0, i, c, h, _, _ => absurd h (Nat.not_lt_zero _)
  | n + 1, i, c, h, hi, hc => by
    rw [X1_count_L4]
    by_cases e : i = V
    · subst e
      exact (if_pos (nI_le (Nat.le_refl _) (by omega))).trans (by rw [hc])
    · refine (if_neg (nI_ge (show i < V by omega) (by omega))).trans ?_
      refine (q_b1 (q_fact facts (v := i) (k := 3) rfl rfl (by omega) (by omega))).trans ?_
      have hs : cntN (fun v => decide (facts (v * 7 + 3) = st)) (i + 1) = cntN (fun v => decide (facts (v * 7 + 3) = st)) i + (if facts (i * 7 + 3) = st then 1 else 0) := by
        show _ + (if decide (facts (i * 7 + 3) = st) = true then 1 else 0) = _
        by_cases q : facts (i * 7 + 3) = st <;> simp [q]
      by_cases q : facts (i * 7 + 3) = st
      · refine (if_pos q).trans ?_
        show X1_count_L4 (nI V) facts st n (nI c + 1) (nI i + 1) = _
        rw [nI_1, nI_1]
        exact q_count facts st hV n (i + 1) (c + 1) (by omega) (by omega) (by rw [hs, if_pos q, hc])
      · refine (if_neg q).trans ?_
        show X1_count_L4 (nI V) facts st n (nI c) (nI i + 1) = _
        rw [nI_1]
        exact q_count facts st hV n (i + 1) c (by omega) (by omega) (by rw [hs, if_neg q, hc]; rfl)
theorem q_X1_count (facts : Nat → Int32) (st : Int32) {V : Nat} (hV : V ≤ 20) : X1_count (nI V) facts st = some (nI (cntN (fun v => decide (facts (v * 7 + 3) = st)) V)) := by
  unfold X1_count
  exact q_count facts st hV FU 0 0 (by unfold FU; omega) (Nat.zero_le _) rfl
theorem sumI_add (f : Nat → Int32) (n : Nat) : sumI f (n + 1) = sumI f n + f n := rfl
theorem q_allPaid (facts : Nat → Int32) {V : Nat} (hV : V ≤ 20) : ∀ (n i : Nat) (c : Int32), V - i < n → i ≤ V → c = sumI (fun v => facts (v * 7 + 6)) i → X1_allPaid_L4 (nI V) facts n c (nI i) = some (sumI (fun v => facts (v * 7 + 6)) V)
  | 0, i, c, h, _, _ => absurd h (Nat.not_lt_zero _)
  | n + 1, i, c, h, hi, hc => by
    rw [X1_allPaid_L4]
    by_cases e : i = V
    · subst e
      exact (if_pos (nI_le (Nat.le_refl _) (by omega))).trans (by rw [hc])
    · refine (if_neg (nI_ge (show i < V by omega) (by omega))).trans ?_
      refine (q_b1 (q_fact facts (v := i) (k := 6) rfl rfl (by omega) (by omega))).trans ?_
      show X1_allPaid_L4 (nI V) facts n (c + facts (i * 7 + 6)) (nI i + 1) = _
      rw [nI_1]
      exact q_allPaid facts hV n (i + 1) _ (by omega) (by omega) (by rw [sumI_add, hc])
theorem q_X1_allPaid (facts : Nat → Int32) {V : Nat} (hV : V ≤ 20) : X1_allPaid (nI V) facts = some (sumI (fun v => facts (v * 7 + 6)) V) := by
  unfold X1_allPaid
  exact q_allPaid facts hV FU 0 0 (by unfold FU; omega) (Nat.zero_le _) rfl
/-- the reference's viewers: the row data holds them from 503 on -/
theorem q_of (data : Nat → Int32) {v k : Nat} {x y : Int32} (hx : x = nI v) (hy : y = nI k) (hv : v < 20) (hk : k < 7) : X7_of data x y = some (data (503 + 7 * v + k)) := by
  unfold X7_of
  exact q_ld data (503 + 7 * v + k) _ (by rw [hx, hy, q_lit, q_lit, pk_mul, nI_add, nI_add]) (by omega) (by omega)
theorem q_inState (data : Nat → Int32) (st : Int32) {V : Nat} (hV : V ≤ 20) (h7 : data 7 = nI V) : ∀ (n i c : Nat), V - i < n → i ≤ V → c = cntN (fun v => decide (data (503 + 7 * v + 3) = st)) i → X7_inState_L4 data st n (nI c) (nI i) = some (nI (cntN (fun v => decide (data (503 + 7 * v + 3) = st)) V))
  | 0, i, c, h, _, _ => absurd h (Nat.not_lt_zero _)
  | n + 1, i, c, h, hi, hc => by
    rw [X7_inState_L4]
    refine (q_ld data 7 _ rfl (by omega) (by omega)).trans ?_
    rw [h7]
    by_cases e : i = V
    · subst e
      exact (if_pos (nI_le (Nat.le_refl _) (by omega))).trans (by rw [hc])
    · refine (if_neg (nI_ge (show i < V by omega) (by omega))).trans ?_
      refine (q_b1 (q_of data (v := i) (k := 3) rfl rfl (by omega) (by omega))).trans ?_
      have hs : cntN (fun v => decide (data (503 + 7 * v + 3) = st)) (i + 1) = cntN (fun v => decide (data (503 + 7 * v + 3) = st)) i + (if data (503 + 7 * i + 3) = st then 1 else 0) := by
        show _ + (if decide (data (503 + 7 * i + 3) = st) = true then 1 else 0) = _
        by_cases q : data (503 + 7 * i + 3) = st <;> simp [q]
      by_cases q : data (503 + 7 * i + 3) = st
      · refine (if_pos q).trans ?_
        show X7_inState_L4 data st n (nI c + 1) (nI i + 1) = _
        rw [nI_1, nI_1]
        exact q_inState data st hV h7 n (i + 1) (c + 1) (by omega) (by omega) (by rw [hs, if_pos q, hc])
      · refine (if_neg q).trans ?_
        show X7_inState_L4 data st n (nI c + nI 0) (nI i + 1) = _
        rw [nI_1, nI_add]
        exact q_inState data st hV h7 n (i + 1) c (by omega) (by omega) (by rw [hs, if_neg q, hc]; rfl)
theorem q_X7_inState (data : Nat → Int32) (st : Int32) {V : Nat} (hV : V ≤ 20) (h7 : data 7 = nI V) : X7_inState data st = some (nI (cntN (fun v => decide (data (503 + 7 * v + 3) = st)) V)) := by
  unfold X7_inState
  exact q_inState data st hV h7 FU 0 0 (by unfold FU; omega) (Nat.zero_le _) rfl
