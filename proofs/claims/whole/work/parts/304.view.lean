/-! PHASE 2: the class's view -/
theorem q_kindsL {counts : Nat → Int32} {k : Nat} {i : Int32} (hi : i = nI k) (hk : k < 4) {C : Nat → Nat} (hC : ∀ q, q < 26 → counts (k * 26 + q) = nI (C q) ∧ C q < 1000) : ∀ n q c : Nat, 26 - q < n → q ≤ 26 → c = cntN (fun q => decide (0 < C q)) q → X5_differentKinds_L4 counts i n (nI c) (nI q) = some (nI (cntN (fun q => decide (0 < C q)) 26))
  | 0, q, c, h, _, _ => absurd h (Nat.not_lt_zero _)
  | n + 1, q, c, h, hq, hc => by
    rw [X5_differentKinds_L4]
    by_cases e : q = 26
    · subst e
      exact (if_pos (show nI 26 ≤ nI 26 from nI_le (Nat.le_refl _) (by omega))).trans (by rw [hc])
    · refine (if_neg (show ¬ nI 26 ≤ nI q from nI_ge (show q < 26 by omega) (by omega))).trans ?_
      refine (q_ld counts (k * 26 + q) _ (by rw [hi, q_lit, pk_mul, nI_add]) (by omega) (by omega)).trans ?_
      obtain ⟨h1, h2⟩ := hC q (by omega)
      rw [h1]
      have hs : cntN (fun q => decide (0 < C q)) (q + 1) = cntN (fun q => decide (0 < C q)) q + (if 0 < C q then 1 else 0) := by
        show _ + (if decide (0 < C q) = true then 1 else 0) = _
        by_cases z : 0 < C q <;> simp [z]
      by_cases z : 0 < C q
      · refine (if_neg (show ¬ nI (C q) ≤ nI 0 from nI_ge z (by omega))).trans ?_
        show X5_differentKinds_L4 counts i n (nI c + 1) (nI q + 1) = _
        rw [nI_1, nI_1]
        exact q_kindsL hi hk hC n (q + 1) (c + 1) (by omega) (by omega) (by rw [hs, if_pos z, hc])
      · refine (if_pos (show nI (C q) ≤ nI 0 from nI_le (by omega) (by omega))).trans ?_
        show X5_differentKinds_L4 counts i n (nI c) (nI q + 1) = _
        rw [nI_1]
        exact q_kindsL hi hk hC n (q + 1) c (by omega) (by omega) (by rw [hs, if_neg z, hc]; rfl)
theorem q_differentKinds {counts : Nat → Int32} {k : Nat} {i : Int32} (hi : i = nI k) (hk : k < 4) {C : Nat → Nat} (hC : ∀ q, q < 26 → counts (k * 26 + q) = nI (C q) ∧ C q < 1000) : X5_differentKinds counts i = some (nI (cntN (fun q => decide (0 < C q)) 26)) := by
  unfold X5_differentKinds
  exact q_kindsL hi hk hC FU 0 0 (by unfold FU; omega) (by omega) rfl
/-- a count is above 0 if one is so -/
theorem cntN_any (p : Nat → Bool) : ∀ n : Nat, decide (0 < cntN p n) = anyN p n
  | 0 => rfl
  | n + 1 => by
    have h := cntN_any p n
    show decide (0 < cntN p n + (if p n then 1 else 0)) = (anyN p n || p n)
    rw [← h]
    by_cases z : p n = true
    · rw [z]; simp
    · rw [show p n = false by simpa using z]; simp
theorem q_ex {α : Type} {A B : Option α} {P : α → Prop} (h : A = B) (k : ∃ r, B = some r ∧ P r) : ∃ r, A = some r ∧ P r := by rw [h]; exact k
theorem q_rem {a d : Nat} {x y : Int32} (hx : x = nI a) (hy : y = nI d) (ha : a < 2 ^ 31) (h0 : 0 < d) (hd : d < 2 ^ 31) : x - x / y * y = nI (a % d) := by rw [hx, hy, pk_rem ha h0 hd]
/-- what the rows hold when the first T targets through the hole k have been looked at -/
def VInv (w h k : Nat) (sp sk : Nat → Nat) (seen0 counts0 : Nat → Int32) (T : Nat) (seen counts : Nat → Int32) : Prop :=
  (∀ q, q < 26 → counts (k * 26 + q) = nI (cntN (fun t => decide (sk t = q)) T)) ∧ (∀ m, (m < k * 26 ∨ k * 26 + 26 ≤ m) → counts m = counts0 m) ∧
  (∀ y, y < h → ∀ x, x < w → y * w + x < T → seen (k * 96 + y * 12 + x) = nI (100 * sp (y * w + x) + sk (y * w + x))) ∧ (∀ m, (m < k * 96 ∨ k * 96 + 96 ≤ m) → seen m = seen0 m)
theorem VInv_step {w h k : Nat} {sp sk : Nat → Nat} {seen0 counts0 seen counts : Nat → Int32} (hw : w ≤ 12) (hh : h ≤ 8) {x y : Nat} (hx : x < w) (hy : y < h) (hs : sk (y * w + x) < 26) (I : VInv w h k sp sk seen0 counts0 (y * w + x) seen counts) :
    VInv w h k sp sk seen0 counts0 (y * w + x + 1) (upd seen (k * 96 + y * 12 + x) (nI (100 * sp (y * w + x) + sk (y * w + x)))) (upd counts (k * 26 + sk (y * w + x)) (counts (k * 26 + sk (y * w + x)) + 1)) := by
  obtain ⟨i1, i2, i3, i4⟩ := I
  refine ⟨fun q hq => ?_, fun m hm => ?_, fun y' hy' x' hx' ht => ?_, fun m hm => ?_⟩
  · show _ = nI (cntN (fun t => decide (sk t = q)) (y * w + x) + (if decide (sk (y * w + x) = q) = true then 1 else 0))
    by_cases e : sk (y * w + x) = q
    · rw [← e, pk_us, i1 _ hs, nI_1]; simp
    · rw [pk_un (by omega), i1 q hq]; simp [e]
  · rw [pk_un (by omega), i2 m hm]
  · by_cases e : y' = y ∧ x' = x
    · rw [e.1, e.2, pk_us]
    · have hne : k * 96 + y' * 12 + x' ≠ k * 96 + y * 12 + x := by omega
      rw [pk_un hne]
      refine i3 y' hy' x' hx' ?_
      have hne2 : y' * w + x' ≠ y * w + x := by
        intro z
        rcases Nat.lt_trichotomy y' y with g | g | g
        · have : (y' + 1) * w ≤ y * w := Nat.mul_le_mul_right w g
          rw [Nat.succ_mul] at this
          omega
        · subst g; exact e ⟨rfl, by omega⟩
        · have : (y + 1) * w ≤ y' * w := Nat.mul_le_mul_right w g
          rw [Nat.succ_mul] at this
          omega
      omega
  · rw [pk_un (by omega), i4 m hm]
