/-! PHASE 2: the class's view of all holes -/
/-- what the class's rows say of the hole k, when the target t shows the plane sp t and the kind sk t -/
def VRow (w h : Nat) (sp sk : Nat → Nat) (k : Nat) (seen counts kinds depths : Nat → Int32) : Prop :=
  (∀ q, q < 26 → counts (k * 26 + q) = nI (cntN (fun t => decide (sk t = q)) (w * h))) ∧ kinds k = nI (cntN (fun q => anyN (fun t => decide (sk t = q)) (w * h)) 26) ∧ depths k = nI (sumN (fun t => sp t + 1) (w * h) / (w * h)) ∧ ∀ y, y < h → ∀ x, x < w → seen (k * 96 + y * 12 + x) = nI (100 * sp (y * w + x) + sk (y * w + x))
theorem VRow.keep {w h k : Nat} {sp sk : Nat → Nat} {seen counts kinds depths seen' counts' kinds' depths' : Nat → Int32} (V : VRow w h sp sk k seen counts kinds depths) (hw : w ≤ 12) (hh : h ≤ 8) (h1 : ∀ m, k * 26 ≤ m → m < k * 26 + 26 → counts' m = counts m) (h2 : kinds' k = kinds k) (h3 : depths' k = depths k) (h4 : ∀ m, k * 96 ≤ m → m < k * 96 + 96 → seen' m = seen m) : VRow w h sp sk k seen' counts' kinds' depths' :=
  ⟨fun q hq => (h1 _ (by omega) (by omega)).trans (V.1 q hq), h2.trans V.2.1, h3.trans V.2.2.1, fun y hy x hx => (h4 _ (by omega) (by omega)).trans (V.2.2.2 y hy x hx)⟩
theorem q_updateL {w h n HN : Nat} {cells pulls holeX holeY : Nat → Int32} {sp sk : Nat → Nat → Nat} (hw0 : 0 < w) (hw : w ≤ 12) (hh0 : 0 < h) (hh : h ≤ 8) (hH : HN ≤ 4)
    (hsee : ∀ k, k < HN → ∀ y, y < h → ∀ x, x < w → X0_seenFrom (nI h) (nI n) cells pulls holeX holeY (nI k) (nI x) (nI y) = some (nI (100 * sp k (y * w + x) + sk k (y * w + x))) ∧ sp k (y * w + x) < 5 ∧ sk k (y * w + x) < 26) (hsp : ∀ k, k < HN → ∀ t, t < h * w → sp k t < 5) (prices : Nat → Int32) :
    ∀ (fuel k : Nat) (seen counts kinds depths : Nat → Int32), HN - k < fuel → k ≤ HN → (∀ j, j < k → VRow w h (sp j) (sk j) j seen counts kinds depths) → (∀ m, k * 26 ≤ m → m < 104 → counts m = 0) →
    ∃ r, X5_update_L18 (nI w) (nI h) (nI n) (nI HN) cells pulls holeX holeY fuel (nI k) seen counts kinds depths prices = some r ∧ ((∀ j, j < HN → VRow w h (sp j) (sk j) j r.1 r.2.1 r.2.2.1 r.2.2.2.1) ∧ r.2.2.2.2 = prices)
  | 0, k, _, _, _, _, h0, _, _, _ => absurd h0 (Nat.not_lt_zero _)
  | fuel + 1, k, seen, counts, kinds, depths, h0, hk, I, Z => by
    rw [X5_update_L18]
    by_cases e : k = HN
    · subst e
      exact ⟨_, if_pos (nI_le (Nat.le_refl _) (by omega)), I, rfl⟩
    · have hk' : k < HN := by omega
      have hm : h * w ≤ 8 * 12 := Nat.mul_le_mul hh hw
      have hS : sumN (fun t => sp k t + 1) (h * w) ≤ h * w * 5 := sumN_le _ (fun t ht => hsp k hk' t ht)
      refine q_ex (if_neg (nI_ge hk' (by omega))) ?_
      obtain ⟨⟨s1, c1, d1⟩, e1, ⟨v1, v2, v3, v4⟩, D1⟩ := q_look (depths := depths) (i := nI k) (seen := seen) (counts := counts) rfl (show k < 4 by omega) hw0 hw hh0 hh (hsee k hk') (by omega) (fun q hq => Z _ (by omega) (by omega))
      dsimp only at v1 v2 v3 v4 D1
      refine q_ex (q_b3 e1) ?_
      have hC : ∀ q, q < 26 → c1 (k * 26 + q) = nI (cntN (fun t => decide (sk k t = q)) (h * w)) ∧ cntN (fun t => decide (sk k t = q)) (h * w) < 1000 := fun q hq => ⟨v1 q hq, Nat.lt_of_le_of_lt (cntN_le _ _) (by omega)⟩
      refine q_ex (q_b1 (q_differentKinds (i := nI k) rfl (show k < 4 by omega) hC)) ?_
      refine q_ex (q_st _ k _ rfl (by omega) (by omega)) ?_
      refine q_ex (q_nm _ _) ?_
      rw [nI_clamp (show k < 2 ^ 31 by omega), nI_1]
      refine q_updateL hw0 hw hh0 hh hH hsee hsp prices fuel (k + 1) s1 c1 _ d1 (by omega) (by omega) (fun j hj => ?_) (fun m hm1 hm2 => ?_)
      · by_cases ej : j = k
        · subst ej
          refine ⟨fun q hq => by rw [v1 q hq, Nat.mul_comm h w], ?_, ?_, fun y hy x hx => v3 y hy x hx ?_⟩
          · rw [pk_us, Nat.mul_comm h w, show (fun q => decide (0 < cntN (fun t => decide (sk j t = q)) (w * h))) = (fun q => anyN (fun t => decide (sk j t = q)) (w * h)) from funext (fun q => cntN_any _ _)]
          · rw [D1, pk_us, Nat.mul_comm h w]
          · rw [Nat.mul_comm h w]; exact tgt_lt hx hy
        · refine (I j (by omega)).keep hw hh (fun m h1 h2 => v2 m (by omega)) (pk_un ej) ?_ (fun m h1 h2 => v4 m (by omega))
          rw [D1]
          exact pk_un ej
      · rw [v2 m (by omega)]
        exact Z m (by omega) hm2
theorem q_updateG {w h n HN : Nat} {cells pulls holeX holeY : Nat → Int32} {sp sk : Nat → Nat → Nat} (hw0 : 0 < w) (hw : w ≤ 12) (hh0 : 0 < h) (hh : h ≤ 8) (hH : HN ≤ 4)
    (hsee : ∀ k, k < HN → ∀ y, y < h → ∀ x, x < w → X0_seenFrom (nI h) (nI n) cells pulls holeX holeY (nI k) (nI x) (nI y) = some (nI (100 * sp k (y * w + x) + sk k (y * w + x))) ∧ sp k (y * w + x) < 5 ∧ sk k (y * w + x) < 26) (hsp : ∀ k, k < HN → ∀ t, t < h * w → sp k t < 5) (seen counts kinds depths prices : Nat → Int32) :
    ∃ r, X5_update seen counts kinds depths prices (nI w) (nI h) (nI n) (nI HN) cells pulls holeX holeY = some r ∧ ((∀ j, j < HN → VRow w h (sp j) (sk j) j r.1 r.2.1 r.2.2.1 r.2.2.2.1) ∧ ∀ m, m < 104 → r.2.2.2.2 m = -1) := by
  unfold X5_update
  refine q_ex (q_b1 (q_fill (by omega))) ?_
  refine q_ex (q_b1 (q_fill (by omega))) ?_
  obtain ⟨r, h1, h2, h3⟩ := q_updateL hw0 hw hh0 hh hH hsee hsp (cpN (fun _ => -1) prices 104) FU 0 seen (cpN (fun _ => 0) counts 104) kinds depths (by unfold FU; omega) (Nat.zero_le _) (fun j hj => absurd hj (Nat.not_lt_zero _)) (fun m _ hm => if_pos hm)
  exact ⟨r, h1, h2, fun m hm => by rw [h3]; exact if_pos hm⟩
/-- the view of a box -/
def VOK (w h n HN : Nat) (cells : Nat → Int32) (pull hx hy : Nat → Nat) (seen counts kinds depths : Nat → Int32) : Prop :=
  ∀ k, k < HN → VRow w h (spB w h n cells pull (hx k) (hy k)) (skB w h n cells pull (hx k) (hy k)) k seen counts kinds depths
theorem q_update {w h n : Nat} {cells pulls holeX holeY : Nat → Int32} {pull : Nat → Nat} {HN : Nat} {hx hy : Nat → Nat} (C : CBox n pull HN hx hy pulls holeX holeY) (S : SBox w h n pull HN hx hy) (B : KBox w h n cells pull) (seen counts kinds depths prices : Nat → Int32) :
    ∃ s1 c1 k1 d1 p1, X5_update seen counts kinds depths prices (nI w) (nI h) (nI n) (nI HN) cells pulls holeX holeY = some (s1, c1, k1, d1, p1) ∧ VOK w h n HN cells pull hx hy s1 c1 k1 d1 ∧ ∀ m, m < 104 → p1 m = -nI 1 := by
  obtain ⟨⟨s1, c1, k1, d1, p1⟩, h1, h2, h3⟩ := q_updateG (cells := cells) (pulls := pulls) (holeX := holeX) (holeY := holeY) (sp := fun k => spB w h n cells pull (hx k) (hy k)) (sk := fun k => skB w h n cells pull (hx k) (hy k)) S.1.1 S.1.2 S.2.1.1 S.2.1.2 S.2.2.2.1 (fun k hk => hsee_of C S B rfl hk) (fun k hk t _ => Nat.lt_of_lt_of_le (seeP_lt _ S.2.2.1.1) S.2.2.1.2) seen counts kinds depths prices
  exact ⟨s1, c1, k1, d1, p1, h1, h2, h3⟩
