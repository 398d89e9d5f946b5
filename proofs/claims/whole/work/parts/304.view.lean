/-! PHASE 2: the class's view -/
theorem q_kindsL {counts : Nat → Int32} {k : Nat} {i : Int32} (hi : i = nI k) (hk : k < 4) {C : Nat → Nat} (hC : ∀ q, q < 26 → counts (k * 26 + q) = nI (C q) ∧ C q < 1000) : ∀ n q c : Nat, 26 - q < n → q ≤ 26 → c = cntN (fun q => decide (0 < C q)) q → X5_differentKinds_L4 counts i n (nI c) (nI q) = some (nI (cntN (fun q => decide (0 < C q)) 26))
  | 0, q, c, h, _, _ => absurd h (Nat.not_lt_zero _)
  | n + 1, q, c, h, hq, hc => by
    rw [X5_differentKinds_L4]
    by_cases e : q = 26
    · subst e
      exact (if_pos (show nI 26 ≤ nI 26 from nI_le (Nat.le_refl _) (by omega))).trans (by rw [hc])
    · refine (if_neg (show ¬ nI 26 ≤ nI q from nI_ge (show q < 26 by omega) (by omega))).trans ?_
      refine (q_ld counts (k * 26 + q) _ (by rw [hi, q_lit, pk_mul, nI_add]) (by omega) (by omega)).trans ?_
      obtain ⟨h1, h2⟩ := hC q (by omega)
      rw [h1]
      have hs : cntN (fun q => decide (0 < C q)) (q + 1) = cntN (fun q => decide (0 < C q)) q + (if 0 < C q then 1 else 0) := by
        show _ + (if decide (0 < C q) = true then 1 else 0) = _
        by_cases z : 0 < C q <;> simp [z]
      by_cases z : 0 < C q
      · refine (if_neg (show ¬ nI (C q) ≤ nI 0 from nI_ge z (by omega))).trans ?_
        show X5_differentKinds_L4 counts i n (nI c + 1) (nI q + 1) = _
        rw [nI_1, nI_1]
        exact q_kindsL hi hk hC n (q + 1) (c + 1) (by omega) (by omega) (by rw [hs, if_pos z, hc])
      · refine (if_pos (show nI (C q) ≤ nI 0 from nI_le (by omega) (by omega))).trans ?_
        show X5_differentKinds_L4 counts i n (nI c) (nI q + 1) = _
        rw [nI_1]
        exact q_kindsL hi hk hC n (q + 1) c (by omega) (by omega) (by rw [hs, if_neg z, hc]; rfl)
theorem q_differentKinds {counts : Nat → Int32} {k : Nat} {i : Int32} (hi : i = nI k) (hk : k < 4) {C : Nat → Nat} (hC : ∀ q, q < 26 → counts (k * 26 + q) = nI (C q) ∧ C q < 1000) : X5_differentKinds counts i = some (nI (cntN (fun q => decide (0 < C q)) 26)) := by
  unfold X5_differentKinds
  exact q_kindsL hi hk hC FU 0 0 (by unfold FU; omega) (by omega) rfl
/-- a count is above 0 if one is so -/
theorem cntN_any (p : Nat → Bool) : ∀ n : Nat, decide (0 < cntN p n) = anyN p n
  | 0 => rfl
  | n + 1 => by
    have h := cntN_any p n
    show decide (0 < cntN p n + (if p n then 1 else 0)) = (anyN p n || p n)
    rw [← h]
    by_cases z : p n = true
    · rw [z]; simp
    · rw [show p n = false by simpa using z]; simp
