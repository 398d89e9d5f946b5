/-! PHASE 2: the reference's sums over all targets, when each target's plane sp t and kind sk t are known -/
def sumN (f : Nat → Nat) : Nat → Nat
  | 0 => 0
  | n + 1 => sumN f n + f n
theorem sumN_le {f : Nat → Nat} {M : Nat} : ∀ n : Nat, (∀ t, t < n → f t ≤ M) → sumN f n ≤ n * M
  | 0, _ => by show 0 ≤ _; omega
  | n + 1, h => by
    have h1 := sumN_le n (fun t ht => h t (by omega))
    have h2 := h n (by omega)
    show sumN f n + f n ≤ (n + 1) * M
    rw [Nat.succ_mul]
    omega
/-- each of the N targets through this hole: the reference answers its plane and its kind -/
def RSee (data : Nat → Int32) (i : Int32) (N : Nat) (sp sk : Nat → Nat) : Prop := X7_cells data = some (nI N) ∧ (0 < N ∧ N ≤ 96) ∧ ∀ t, t < N → X7_planeSeen data i (nI t) = some (nI (sp t)) ∧ X7_kindSeen data i (nI t) = some (nI (sk t)) ∧ sp t < 5 ∧ sk t < 26
theorem r_showingL {data : Nat → Int32} {i : Int32} {N : Nat} {sp sk : Nat → Nat} (R : RSee data i N sp sk) {q : Nat} (hq : q < 26) : ∀ n t c : Nat, N - t < n → t ≤ N → c = cntN (fun t => decide (sk t = q)) t → X7_showing_L5 data i (nI q) n (nI c) (nI t) = some (nI (cntN (fun t => decide (sk t = q)) N))
  | 0, t, c, h, _, _ => absurd h (Nat.not_lt_zero _)
  | n + 1, t, c, h, ht, hc => by
    obtain ⟨r1, r2, r3⟩ := id R
    rw [X7_showing_L5]
    refine (q_b1 r1).trans ?_
    by_cases e : t = N
    · subst e
      exact (if_pos (nI_le (Nat.le_refl _) (by omega))).trans (by rw [hc])
    · refine (if_neg (nI_ge (show t < N by omega) (by omega))).trans ?_
      refine (q_b1 (r3 t (by omega)).2.1).trans ?_
      have hb := (r3 t (by omega)).2.2.2
      have hs : cntN (fun t => decide (sk t = q)) (t + 1) = cntN (fun t => decide (sk t = q)) t + (if sk t = q then 1 else 0) := by
        show _ + (if decide (sk t = q) = true then 1 else 0) = _
        by_cases z : sk t = q <;> simp [z]
      by_cases z : sk t = q
      · refine (if_pos (by rw [z])).trans ?_
        show X7_showing_L5 data i (nI q) n (nI c + 1) (nI t + 1) = _
        rw [nI_1, nI_1]
        exact r_showingL R hq n (t + 1) (c + 1) (by omega) (by omega) (by rw [hs, if_pos z, hc])
      · refine (if_neg (fun y => z ((nI_eq (by omega) (by omega)).mp y))).trans ?_
        show X7_showing_L5 data i (nI q) n (nI c + nI 0) (nI t + 1) = _
        rw [nI_1, nI_add]
        exact r_showingL R hq n (t + 1) c (by omega) (by omega) (by rw [hs, if_neg z, hc]; rfl)
theorem r_showing {data : Nat → Int32} {i : Int32} {N : Nat} {sp sk : Nat → Nat} (R : RSee data i N sp sk) {q : Nat} (hq : q < 26) : X7_showing data i (nI q) = some (nI (cntN (fun t => decide (sk t = q)) N)) := by
  unfold X7_showing
  exact r_showingL R hq FU 0 0 (by have := R.2.1.2; unfold FU; omega) (Nat.zero_le _) rfl
theorem r_depthL {data : Nat → Int32} {i : Int32} {N : Nat} {sp sk : Nat → Nat} (R : RSee data i N sp sk) : ∀ n t c : Nat, N - t < n → t ≤ N → c = sumN (fun t => sp t + 1) t → X7_depthOf_L4 data i n (nI c) (nI t) = some (nI (sumN (fun t => sp t + 1) N / N))
  | 0, t, c, h, _, _ => absurd h (Nat.not_lt_zero _)
  | n + 1, t, c, h, ht, hc => by
    obtain ⟨r1, r2, r3⟩ := id R
    have hS : sumN (fun t => sp t + 1) N ≤ N * 5 := sumN_le N (fun t ht => (r3 t ht).2.2.1)
    rw [X7_depthOf_L4]
    refine (q_b1 r1).trans ?_
    by_cases e : t = N
    · subst e
      refine (if_pos (nI_le (Nat.le_refl _) (by omega))).trans ?_
      refine (q_b1 r1).trans ?_
      refine (q_ck (nI_ne r2.1 (by omega)) _).trans ?_
      rw [hc, pk_div (by omega) r2.1 (by omega)]
    · refine (if_neg (nI_ge (show t < N by omega) (by omega))).trans ?_
      refine (q_b1 (r3 t (by omega)).1).trans ?_
      show X7_depthOf_L4 data i n (nI c + (nI (sp t) + 1)) (nI t + 1) = _
      rw [nI_1, nI_1, nI_add]
      exact r_depthL R n (t + 1) (c + (sp t + 1)) (by omega) (by omega) (by rw [hc]; rfl)
theorem r_depthOf {data : Nat → Int32} {i : Int32} {N : Nat} {sp sk : Nat → Nat} (R : RSee data i N sp sk) : X7_depthOf data i = some (nI (sumN (fun t => sp t + 1) N / N)) := by
  unfold X7_depthOf
  exact r_depthL R FU 0 0 (by have := R.2.1.2; unfold FU; omega) (Nat.zero_le _) rfl
/-- is one of the first n so -/
def anyN (p : Nat → Bool) : Nat → Bool
  | 0 => false
  | n + 1 => anyN p n || p n
theorem bit_shl : ∀ k : Fin 26, (1 : Int32) <<< (nI k.val &&& 31) = nI (2 ^ k.val) := by decide +kernel
theorem bit_amt : ∀ k : Fin 26, ((nI k.val &&& 31).toBitVec.smod 32).toNat = k.val := by decide +kernel
theorem bit_or (a b : Nat) : nI a ||| nI b = nI (a ||| b) := by
  apply Int32.toBitVec_inj.1
  show BitVec.ofNat 32 a ||| BitVec.ofNat 32 b = BitVec.ofNat 32 (a ||| b)
  apply BitVec.eq_of_getLsbD_eq
  intro i hi
  simp [hi]
theorem bit_get {S k : Nat} (hS : S < 2 ^ 26) (hk : k < 26) : (nI S >>> (nI k &&& 31)) &&& 1 = nI (if S.testBit k then 1 else 0) := by
  rw [pk_shrN (by omega) _ k (bit_amt ⟨k, hk⟩), pk_andN (k := 1) (Nat.lt_of_le_of_lt (Nat.div_le_self _ _) (by omega)) (by decide)]
  have h : S.testBit k = decide (S / 2 ^ k % 2 = 1) := by rw [Nat.testBit_eq_decide_div_mod_eq]
  rw [h]
  have : S / 2 ^ k % 2 < 2 := Nat.mod_lt _ (by omega)
  by_cases e : S / 2 ^ k % 2 = 1
  · rw [show (2 : Nat) ^ 1 = 2 from rfl, e]; simp
  · rw [show (2 : Nat) ^ 1 = 2 from rfl, show S / 2 ^ k % 2 = 0 by omega]; simp
/-- the kinds that the first n targets show, as a set of bits -/
def bitsN (sk : Nat → Nat) : Nat → Nat
  | 0 => 0
  | n + 1 => bitsN sk n ||| 2 ^ sk n
theorem bitsN_lt {sk : Nat → Nat} : ∀ n : Nat, (∀ t, t < n → sk t < 26) → bitsN sk n < 2 ^ 26
  | 0, _ => by show 0 < _; omega
  | n + 1, h => Nat.or_lt_two_pow (bitsN_lt n (fun t ht => h t (by omega))) (Nat.pow_lt_pow_right (by omega) (h n (by omega)))
theorem bitsN_bit {sk : Nat → Nat} (k : Nat) : ∀ n : Nat, (bitsN sk n).testBit k = anyN (fun t => decide (sk t = k)) n
  | 0 => Nat.zero_testBit k
  | n + 1 => by
    show (bitsN sk n ||| 2 ^ sk n).testBit k = (anyN (fun t => decide (sk t = k)) n || decide (sk n = k))
    rw [Nat.testBit_or, bitsN_bit k n, Nat.testBit_two_pow]
theorem r_kinds37 (data : Nat → Int32) (i : Int32) {S : Nat} (hS : S < 2 ^ 26) : ∀ n c k : Nat, 26 - k < n → k ≤ 26 → c = cntN (fun k => S.testBit k) k → X7_kindsOf_L37 data i n (nI S) (nI c) (nI k) = some (nI (cntN (fun k => S.testBit k) 26))
  | 0, c, k, h, _, _ => absurd h (Nat.not_lt_zero _)
  | n + 1, c, k, h, hk, hc => by
    rw [X7_kindsOf_L37]
    by_cases e : k = 26
    · subst e
      exact (if_pos (show nI 26 ≤ nI 26 from nI_le (Nat.le_refl _) (by omega))).trans (by rw [hc])
    · refine (if_neg (show ¬ nI 26 ≤ nI k from nI_ge (show k < 26 by omega) (by omega))).trans ?_
      show X7_kindsOf_L37 data i n (nI S) (nI c + ((nI S >>> (nI k &&& 31)) &&& 1)) (nI k + 1) = _
      rw [bit_get hS (by omega), nI_1, nI_add]
      exact r_kinds37 data i hS n (c + (if S.testBit k then 1 else 0)) (k + 1) (by omega) (by omega) (by rw [hc]; rfl)
theorem r_kinds7 {data : Nat → Int32} {i : Int32} {N : Nat} {sp sk : Nat → Nat} (R : RSee data i N sp sk) : ∀ n t : Nat, N - t < n → t ≤ N → X7_kindsOf_L7 data i n (nI (bitsN sk t)) (nI 0) (nI t) = some (nI (cntN (fun k => anyN (fun t => decide (sk t = k)) N) 26))
  | 0, t, h, _ => absurd h (Nat.not_lt_zero _)
  | n + 1, t, h, ht => by
    obtain ⟨r1, r2, r3⟩ := id R
    rw [X7_kindsOf_L7]
    refine (q_b1 r1).trans ?_
    by_cases e : t = N
    · subst e
      refine (if_pos (nI_le (Nat.le_refl _) (by omega))).trans ?_
      refine (r_kinds37 data i (bitsN_lt t (fun t ht => (r3 t ht).2.2.2)) FU 0 0 (by unfold FU; omega) (by omega) rfl).trans ?_
      rw [show (fun k => (bitsN sk t).testBit k) = (fun k => anyN (fun t => decide (sk t = k)) t) from funext (fun k => bitsN_bit k t)]
    · refine (if_neg (nI_ge (show t < N by omega) (by omega))).trans ?_
      refine (q_b1 (r3 t (by omega)).2.1).trans ?_
      show X7_kindsOf_L7 data i n (nI (bitsN sk t) ||| ((1 : Int32) <<< (nI (sk t) &&& 31))) (nI 0) (nI t + 1) = _
      rw [bit_shl ⟨sk t, (r3 t (by omega)).2.2.2⟩, bit_or, nI_1]
      exact r_kinds7 R n (t + 1) (by omega) (by omega)
theorem r_kindsOf {data : Nat → Int32} {i : Int32} {N : Nat} {sp sk : Nat → Nat} (R : RSee data i N sp sk) : X7_kindsOf data i = some (nI (cntN (fun k => anyN (fun t => decide (sk t = k)) N) 26)) := by
  unfold X7_kindsOf
  exact r_kinds7 R FU 0 (by have := R.2.1.2; unfold FU; omega) (Nat.zero_le _)
