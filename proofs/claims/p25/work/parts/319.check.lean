/-! PHASE 2: the checksum -/
def fo (F : Nat → Int32) : Nat → Int64 → Int64
  | 0, v => v
  | n + 1, v => 31 * fo F n v + (F n).toInt64
def fo2 (F : Nat → Nat → Int32) (m : Nat) : Nat → Int64 → Int64
  | 0, v => v
  | n + 1, v => fo (F n) m (fo2 F m n v)
theorem fo2_z (F : Nat → Nat → Int32) (m : Nat) (v : Int64) : fo2 F m 0 v = v := rfl
section CHK
variable {w h n HN sz V LL rc : Nat} {pull hx hy : Nat → Nat} {cells pulls holeX holeY codes : Nat → Int32} {ti : Int32} {lk fa d : Nat → Int32} {seen kinds depths : Nat → Int32}
theorem k_v_in {F : Nat → Int32} {k : Nat} (hF : ∀ j, j < 7 → X6_viewer (nI V) fa (nI k) (nI j) = some (.inr (F j))) (kont : Int64 → Int32 → Option Int64) (u : Int64) : ∀ (fuel j : Nat) (v : Int64), 7 - j < fuel → j ≤ 7 → v = fo F j u → X6_checksum_L152 (nI w) (nI h) (nI n) (nI HN) (nI rc) cells pulls holeX holeY (nI V) (nI LL) ti lk fa seen kinds depths kont fuel v (nI k) (nI j) = kont (fo F 7 u) (nI (k + 1))
  | 0, j, v, h0, _, _ => absurd h0 (Nat.not_lt_zero _)
  | fuel + 1, j, v, h0, hj, hv => by
    rw [X6_checksum_L152]
    by_cases e : j = 7
    · subst e
      refine (if_pos (show nI 7 ≤ nI 7 from nI_le (Nat.le_refl _) (by omega))).trans ?_
      show kont v (nI k + 1) = _
      rw [nI_1, ← hv]
    · refine (if_neg (show ¬ nI 7 ≤ nI j from nI_ge (show j < 7 by omega) (by omega))).trans ?_
      rw [hF j (by omega)]
      show X6_checksum_L152 (nI w) (nI h) (nI n) (nI HN) (nI rc) cells pulls holeX holeY (nI V) (nI LL) ti lk fa seen kinds depths kont fuel (31 * v + (F j).toInt64) (nI k) (nI j + 1) = _
      rw [nI_1]
      exact k_v_in hF kont u fuel (j + 1) _ (by omega) (by omega) (by rw [hv]; rfl)
theorem k_v_out {F : Nat → Nat → Int32} (hC : V ≤ 20) (hF : ∀ k, k < V → ∀ j, j < 7 → X6_viewer (nI V) fa (nI k) (nI j) = some (.inr (F k j))) (u : Int64) : ∀ (fuel k : Nat) (v : Int64), V - k < fuel → k ≤ V → v = fo2 F 7 k u → X6_checksum_L135 (nI w) (nI h) (nI n) (nI HN) (nI rc) cells pulls holeX holeY (nI V) (nI LL) ti lk fa seen kinds depths fuel v (nI k) = some (fo2 F 7 V u)
  | 0, k, v, h0, _, _ => absurd h0 (Nat.not_lt_zero _)
  | fuel + 1, k, v, h0, hk, hv => by
    rw [X6_checksum_L135]
    by_cases e : k = V
    · subst e
      refine (if_pos (nI_le (Nat.le_refl _) (by omega))).trans ?_
      rw [← hv]
    · refine (if_neg (nI_ge (show k < V by omega) (by omega))).trans ?_
      refine (k_v_in (hF k (by omega)) _ v FU 0 v (by unfold FU; omega) (Nat.zero_le _) rfl).trans ?_
      exact k_v_out hC hF u fuel (k + 1) _ (by omega) (by omega) (by rw [hv]; rfl)
theorem k_h_in {F : Nat → Int32} {k : Nat} (hF : ∀ j, j < 5 → X6_hole (nI HN) holeX holeY lk kinds depths (nI k) (nI j) = some (.inr (F j))) (kont : Int64 → Int32 → Option Int64) (u : Int64) : ∀ (fuel j : Nat) (v : Int64), 5 - j < fuel → j ≤ 5 → v = fo F j u → X6_checksum_L100 (nI w) (nI h) (nI n) (nI HN) (nI rc) cells pulls holeX holeY (nI V) (nI LL) ti lk fa seen kinds depths kont fuel v (nI k) (nI j) = kont (fo F 5 u) (nI (k + 1))
  | 0, j, v, h0, _, _ => absurd h0 (Nat.not_lt_zero _)
  | fuel + 1, j, v, h0, hj, hv => by
    rw [X6_checksum_L100]
    by_cases e : j = 5
    · subst e
      refine (if_pos (show nI 5 ≤ nI 5 from nI_le (Nat.le_refl _) (by omega))).trans ?_
      show kont v (nI k + 1) = _
      rw [nI_1, ← hv]
    · refine (if_neg (show ¬ nI 5 ≤ nI j from nI_ge (show j < 5 by omega) (by omega))).trans ?_
      rw [hF j (by omega)]
      show X6_checksum_L100 (nI w) (nI h) (nI n) (nI HN) (nI rc) cells pulls holeX holeY (nI V) (nI LL) ti lk fa seen kinds depths kont fuel (31 * v + (F j).toInt64) (nI k) (nI j + 1) = _
      rw [nI_1]
      exact k_h_in hF kont u fuel (j + 1) _ (by omega) (by omega) (by rw [hv]; rfl)
theorem k_h_out {F : Nat → Nat → Int32} (hC : HN ≤ 4) (hF : ∀ k, k < HN → ∀ j, j < 5 → X6_hole (nI HN) holeX holeY lk kinds depths (nI k) (nI j) = some (.inr (F k j))) (u : Int64) : ∀ (fuel k : Nat) (v : Int64), HN - k < fuel → k ≤ HN → v = fo2 F 5 k u → X6_checksum_L83 (nI w) (nI h) (nI n) (nI HN) (nI rc) cells pulls holeX holeY (nI V) (nI LL) ti lk fa seen kinds depths fuel v (nI k) = X6_checksum_L135 (nI w) (nI h) (nI n) (nI HN) (nI rc) cells pulls holeX holeY (nI V) (nI LL) ti lk fa seen kinds depths FU (fo2 F 5 HN u) (nI 0)
  | 0, k, v, h0, _, _ => absurd h0 (Nat.not_lt_zero _)
  | fuel + 1, k, v, h0, hk, hv => by
    rw [X6_checksum_L83]
    by_cases e : k = HN
    · subst e
      refine (if_pos (nI_le (Nat.le_refl _) (by omega))).trans ?_
      rw [← hv]
      rfl
    · refine (if_neg (nI_ge (show k < HN by omega) (by omega))).trans ?_
      refine (k_h_in (hF k (by omega)) _ v FU 0 v (by unfold FU; omega) (Nat.zero_le _) rfl).trans ?_
      exact k_h_out hC hF u fuel (k + 1) _ (by omega) (by omega) (by rw [hv]; rfl)
theorem k_p_in {F : Nat → Int32} {k : Nat} (hF : ∀ j, j < 3 → X6_plane (nI w) (nI h) (nI n) (nI HN) cells pulls seen (nI k) (nI j) = some (.inr (F j))) (kont : Int64 → Int32 → Option Int64) (u : Int64) : ∀ (fuel j : Nat) (v : Int64), 3 - j < fuel → j ≤ 3 → v = fo F j u → X6_checksum_L48 (nI w) (nI h) (nI n) (nI HN) (nI rc) cells pulls holeX holeY (nI V) (nI LL) ti lk fa seen kinds depths kont fuel v (nI k) (nI j) = kont (fo F 3 u) (nI (k + 1))
  | 0, j, v, h0, _, _ => absurd h0 (Nat.not_lt_zero _)
  | fuel + 1, j, v, h0, hj, hv => by
    rw [X6_checksum_L48]
    by_cases e : j = 3
    · subst e
      refine (if_pos (show nI 3 ≤ nI 3 from nI_le (Nat.le_refl _) (by omega))).trans ?_
      show kont v (nI k + 1) = _
      rw [nI_1, ← hv]
    · refine (if_neg (show ¬ nI 3 ≤ nI j from nI_ge (show j < 3 by omega) (by omega))).trans ?_
      rw [hF j (by omega)]
      show X6_checksum_L48 (nI w) (nI h) (nI n) (nI HN) (nI rc) cells pulls holeX holeY (nI V) (nI LL) ti lk fa seen kinds depths kont fuel (31 * v + (F j).toInt64) (nI k) (nI j + 1) = _
      rw [nI_1]
      exact k_p_in hF kont u fuel (j + 1) _ (by omega) (by omega) (by rw [hv]; rfl)
theorem k_p_out {F : Nat → Nat → Int32} (hC : n ≤ 5) (hF : ∀ k, k < n → ∀ j, j < 3 → X6_plane (nI w) (nI h) (nI n) (nI HN) cells pulls seen (nI k) (nI j) = some (.inr (F k j))) (u : Int64) : ∀ (fuel k : Nat) (v : Int64), n - k < fuel → k ≤ n → v = fo2 F 3 k u → X6_checksum_L31 (nI w) (nI h) (nI n) (nI HN) (nI rc) cells pulls holeX holeY (nI V) (nI LL) ti lk fa seen kinds depths fuel v (nI k) = X6_checksum_L83 (nI w) (nI h) (nI n) (nI HN) (nI rc) cells pulls holeX holeY (nI V) (nI LL) ti lk fa seen kinds depths FU (fo2 F 3 n u) (nI 0)
  | 0, k, v, h0, _, _ => absurd h0 (Nat.not_lt_zero _)
  | fuel + 1, k, v, h0, hk, hv => by
    rw [X6_checksum_L31]
    by_cases e : k = n
    · subst e
      refine (if_pos (nI_le (Nat.le_refl _) (by omega))).trans ?_
      rw [← hv]
      rfl
    · refine (if_neg (nI_ge (show k < n by omega) (by omega))).trans ?_
      refine (k_p_in (hF k (by omega)) _ v FU 0 v (by unfold FU; omega) (Nat.zero_le _) rfl).trans ?_
      exact k_p_out hC hF u fuel (k + 1) _ (by omega) (by omega) (by rw [hv]; rfl)
theorem k_s {F : Nat → Int32} (hF : ∀ j, j < 14 → X6_state (nI w) (nI h) (nI n) (nI HN) (nI rc) (nI V) (nI LL) ti fa (nI j) = some (.inr (F j))) (u : Int64) : ∀ (fuel j : Nat) (v : Int64), 14 - j < fuel → j ≤ 14 → v = fo F j u → X6_checksum_L4 (nI w) (nI h) (nI n) (nI HN) (nI rc) cells pulls holeX holeY (nI V) (nI LL) ti lk fa seen kinds depths fuel v (nI j) = X6_checksum_L31 (nI w) (nI h) (nI n) (nI HN) (nI rc) cells pulls holeX holeY (nI V) (nI LL) ti lk fa seen kinds depths FU (fo F 14 u) (nI 0)
  | 0, j, v, h0, _, _ => absurd h0 (Nat.not_lt_zero _)
  | fuel + 1, j, v, h0, hj, hv => by
    rw [X6_checksum_L4]
    by_cases e : j = 14
    · subst e
      refine (if_pos (show nI 14 ≤ nI 14 from nI_le (Nat.le_refl _) (by omega))).trans ?_
      rw [← hv]
      rfl
    · refine (if_neg (show ¬ nI 14 ≤ nI j from nI_ge (show j < 14 by omega) (by omega))).trans ?_
      rw [hF j (by omega)]
      show X6_checksum_L4 (nI w) (nI h) (nI n) (nI HN) (nI rc) cells pulls holeX holeY (nI V) (nI LL) ti lk fa seen kinds depths fuel (31 * v + (F j).toInt64) (nI j + 1) = _
      rw [nI_1]
      exact k_s hF u fuel (j + 1) _ (by omega) (by omega) (by rw [hv]; rfl)
theorem l_v_in {F : Nat → Int32} {k : Nat} {o : Int32} (hF : ∀ j, j < 7 → X7_toldViewer d (nI k) (nI j) = some (F j)) (kont : Int64 → Int32 → Int32 → Option (Int64 × Int32)) (u : Int64) : ∀ (fuel j : Nat) (v : Int64), 7 - j < fuel → j ≤ 7 → v = fo F j u → X7_checksum_L146 d kont fuel v (nI k) (nI j) o = kont (fo F 7 u) (nI (k + 1)) o
  | 0, j, v, h0, _, _ => absurd h0 (Nat.not_lt_zero _)
  | fuel + 1, j, v, h0, hj, hv => by
    rw [X7_checksum_L146]
    by_cases e : j = 7
    · subst e
      refine (if_pos (show nI 7 ≤ nI 7 from nI_le (Nat.le_refl _) (by omega))).trans ?_
      show kont v (nI k + 1) o = _
      rw [nI_1, ← hv]
    · refine (if_neg (show ¬ nI 7 ≤ nI j from nI_ge (show j < 7 by omega) (by omega))).trans ?_
      rw [hF j (by omega)]
      show X7_checksum_L146 d kont fuel (31 * v + (F j).toInt64) (nI k) (nI j + 1) o = _
      rw [nI_1]
      exact l_v_in hF kont u fuel (j + 1) _ (by omega) (by omega) (by rw [hv]; rfl)
theorem l_v_out {F : Nat → Nat → Int32} {o : Int32} (hC : V ≤ 20) (hd : d 7 = nI V) (hF : ∀ k, k < V → ∀ j, j < 7 → X7_toldViewer d (nI k) (nI j) = some (F k j)) (u : Int64) : ∀ (fuel k : Nat) (v : Int64), V - k < fuel → k ≤ V → v = fo2 F 7 k u → X7_checksum_L132 d fuel v (nI k) o = some ((fo2 F 7 V u), o)
  | 0, k, v, h0, _, _ => absurd h0 (Nat.not_lt_zero _)
  | fuel + 1, k, v, h0, hk, hv => by
    rw [X7_checksum_L132]
    refine (q_ld d 7 _ rfl (by omega) (by omega)).trans ?_
    rw [hd]
    by_cases e : k = V
    · subst e
      refine (if_pos (nI_le (Nat.le_refl _) (by omega))).trans ?_
      rw [← hv]
    · refine (if_neg (nI_ge (show k < V by omega) (by omega))).trans ?_
      refine (l_v_in (hF k (by omega)) _ v FU 0 v (by unfold FU; omega) (Nat.zero_le _) rfl).trans ?_
      exact l_v_out hC hd hF u fuel (k + 1) _ (by omega) (by omega) (by rw [hv]; rfl)
theorem l_h_in {F : Nat → Int32} {k : Nat} {o : Int32} (hF : ∀ j, j < 5 → X7_toldHole d (nI k) (nI j) = some (F j)) (kont : Int64 → Int32 → Int32 → Option (Int64 × Int32)) (u : Int64) : ∀ (fuel j : Nat) (v : Int64), 5 - j < fuel → j ≤ 5 → v = fo F j u → X7_checksum_L97 d kont fuel v (nI k) (nI j) o = kont (fo F 5 u) (nI (k + 1)) o
  | 0, j, v, h0, _, _ => absurd h0 (Nat.not_lt_zero _)
  | fuel + 1, j, v, h0, hj, hv => by
    rw [X7_checksum_L97]
    by_cases e : j = 5
    · subst e
      refine (if_pos (show nI 5 ≤ nI 5 from nI_le (Nat.le_refl _) (by omega))).trans ?_
      show kont v (nI k + 1) o = _
      rw [nI_1, ← hv]
    · refine (if_neg (show ¬ nI 5 ≤ nI j from nI_ge (show j < 5 by omega) (by omega))).trans ?_
      rw [hF j (by omega)]
      show X7_checksum_L97 d kont fuel (31 * v + (F j).toInt64) (nI k) (nI j + 1) o = _
      rw [nI_1]
      exact l_h_in hF kont u fuel (j + 1) _ (by omega) (by omega) (by rw [hv]; rfl)
theorem l_h_out {F : Nat → Nat → Int32} {o : Int32} (hC : HN ≤ 4) (hd : d 3 = nI HN) (hF : ∀ k, k < HN → ∀ j, j < 5 → X7_toldHole d (nI k) (nI j) = some (F k j)) (u : Int64) : ∀ (fuel k : Nat) (v : Int64), HN - k < fuel → k ≤ HN → v = fo2 F 5 k u → X7_checksum_L84 d fuel v (nI k) o = X7_checksum_L132 d FU (fo2 F 5 HN u) (nI 0) o
  | 0, k, v, h0, _, _ => absurd h0 (Nat.not_lt_zero _)
  | fuel + 1, k, v, h0, hk, hv => by
    rw [X7_checksum_L84]
    refine (q_ld d 3 _ rfl (by omega) (by omega)).trans ?_
    rw [hd]
    by_cases e : k = HN
    · subst e
      refine (if_pos (nI_le (Nat.le_refl _) (by omega))).trans ?_
      rw [← hv]
      rfl
    · refine (if_neg (nI_ge (show k < HN by omega) (by omega))).trans ?_
      refine (l_h_in (hF k (by omega)) _ v FU 0 v (by unfold FU; omega) (Nat.zero_le _) rfl).trans ?_
      exact l_h_out hC hd hF u fuel (k + 1) _ (by omega) (by omega) (by rw [hv]; rfl)
theorem l_p_in {F : Nat → Int32} {k : Nat} {o : Int32} (hF : ∀ j, j < 3 → X7_toldPlane d (nI k) (nI j) = some (F j)) (kont : Int64 → Int32 → Int32 → Option (Int64 × Int32)) (u : Int64) : ∀ (fuel j : Nat) (v : Int64), 3 - j < fuel → j ≤ 3 → v = fo F j u → X7_checksum_L49 d kont fuel v (nI k) (nI j) o = kont (fo F 3 u) (nI (k + 1)) o
  | 0, j, v, h0, _, _ => absurd h0 (Nat.not_lt_zero _)
  | fuel + 1, j, v, h0, hj, hv => by
    rw [X7_checksum_L49]
    by_cases e : j = 3
    · subst e
      refine (if_pos (show nI 3 ≤ nI 3 from nI_le (Nat.le_refl _) (by omega))).trans ?_
      show kont v (nI k + 1) o = _
      rw [nI_1, ← hv]
    · refine (if_neg (show ¬ nI 3 ≤ nI j from nI_ge (show j < 3 by omega) (by omega))).trans ?_
      rw [hF j (by omega)]
      show X7_checksum_L49 d kont fuel (31 * v + (F j).toInt64) (nI k) (nI j + 1) o = _
      rw [nI_1]
      exact l_p_in hF kont u fuel (j + 1) _ (by omega) (by omega) (by rw [hv]; rfl)
theorem l_p_out {F : Nat → Nat → Int32} {o : Int32} (hC : n ≤ 5) (hd : d 2 = nI n) (hF : ∀ k, k < n → ∀ j, j < 3 → X7_toldPlane d (nI k) (nI j) = some (F k j)) (u : Int64) : ∀ (fuel k : Nat) (v : Int64), n - k < fuel → k ≤ n → v = fo2 F 3 k u → X7_checksum_L36 d fuel v (nI k) o = X7_checksum_L84 d FU (fo2 F 3 n u) (nI 0) o
  | 0, k, v, h0, _, _ => absurd h0 (Nat.not_lt_zero _)
  | fuel + 1, k, v, h0, hk, hv => by
    rw [X7_checksum_L36]
    refine (q_ld d 2 _ rfl (by omega) (by omega)).trans ?_
    rw [hd]
    by_cases e : k = n
    · subst e
      refine (if_pos (nI_le (Nat.le_refl _) (by omega))).trans ?_
      rw [← hv]
      rfl
    · refine (if_neg (nI_ge (show k < n by omega) (by omega))).trans ?_
      refine (l_p_in (hF k (by omega)) _ v FU 0 v (by unfold FU; omega) (Nat.zero_le _) rfl).trans ?_
      exact l_p_out hC hd hF u fuel (k + 1) _ (by omega) (by omega) (by rw [hv]; rfl)
theorem l_s {F : Nat → Int32} {o : Int32} (hF : ∀ j, j < 14 → X7_told d (nI j) = some (F j)) (u : Int64) : ∀ (fuel j : Nat) (v : Int64), 14 - j < fuel → j ≤ 14 → v = fo F j u → X7_checksum_L9 d fuel v (nI j) o = X7_checksum_L36 d FU (fo F 14 u) (nI 0) o
  | 0, j, v, h0, _, _ => absurd h0 (Nat.not_lt_zero _)
  | fuel + 1, j, v, h0, hj, hv => by
    rw [X7_checksum_L9]
    by_cases e : j = 14
    · subst e
      refine (if_pos (show nI 14 ≤ nI 14 from nI_le (Nat.le_refl _) (by omega))).trans ?_
      rw [← hv]
      rfl
    · refine (if_neg (show ¬ nI 14 ≤ nI j from nI_ge (show j < 14 by omega) (by omega))).trans ?_
      rw [hF j (by omega)]
      show X7_checksum_L9 d fuel (31 * v + (F j).toInt64) (nI j + 1) o = _
      rw [nI_1]
      exact l_s hF u fuel (j + 1) _ (by omega) (by omega) (by rw [hv]; rfl)
theorem m_checksum (N : ShowN w h n HN sz V LL rc pull hx hy cells pulls holeX holeY codes ti lk fa d) {counts : Nat → Int32} (Vw : VOK w h n HN cells pull hx hy seen counts kinds depths) (o : Int32) : ∃ v, X6_checksum (nI w) (nI h) (nI n) (nI HN) (nI rc) cells pulls holeX holeY (nI V) (nI LL) ti lk fa seen kinds depths = some v ∧ X7_checksum o d = some (v, nI 0) := by
  have t1 : ∀ j, ∃ v, j < 14 → X6_state (nI w) (nI h) (nI n) (nI HN) (nI rc) (nI V) (nI LL) ti fa (nI j) = some (.inr v) ∧ X7_told d (nI j) = some v := fun j => by
    by_cases c : j < 14
    · obtain ⟨v, h1, h2⟩ := t_state N (show j ≤ 13 by omega)
      exact ⟨v, fun _ => ⟨h1, h2⟩⟩
    · exact ⟨0, fun q => absurd q c⟩
  have t2 : ∀ k, ∃ F : Nat → Int32, ∀ j, k < n → j < 3 → X6_plane (nI w) (nI h) (nI n) (nI HN) cells pulls seen (nI k) (nI j) = some (.inr (F j)) ∧ X7_toldPlane d (nI k) (nI j) = some (F j) := fun k => (Classical.skolem (b := fun _ => Int32) (p := fun j v => k < n → j < 3 → X6_plane (nI w) (nI h) (nI n) (nI HN) cells pulls seen (nI k) (nI j) = some (.inr v) ∧ X7_toldPlane d (nI k) (nI j) = some v)).mp (fun j => by
    by_cases c : k < n ∧ j < 3
    · obtain ⟨v, h1, h2⟩ := t_plane N Vw c.1 (show j ≤ 2 by omega)
      exact ⟨v, fun _ _ => ⟨h1, h2⟩⟩
    · exact ⟨0, fun q1 q2 => absurd ⟨q1, q2⟩ c⟩)
  have t3 : ∀ k, ∃ F : Nat → Int32, ∀ j, k < HN → j < 5 → X6_hole (nI HN) holeX holeY lk kinds depths (nI k) (nI j) = some (.inr (F j)) ∧ X7_toldHole d (nI k) (nI j) = some (F j) := fun k => (Classical.skolem (b := fun _ => Int32) (p := fun j v => k < HN → j < 5 → X6_hole (nI HN) holeX holeY lk kinds depths (nI k) (nI j) = some (.inr v) ∧ X7_toldHole d (nI k) (nI j) = some v)).mp (fun j => by
    by_cases c : k < HN ∧ j < 5
    · obtain ⟨v, h1, h2⟩ := t_hole N Vw c.1 (show j ≤ 4 by omega)
      exact ⟨v, fun _ _ => ⟨h1, h2⟩⟩
    · exact ⟨0, fun q1 q2 => absurd ⟨q1, q2⟩ c⟩)
  obtain ⟨F1, g1⟩ := Classical.skolem.mp t1
  obtain ⟨F2, g2⟩ := Classical.skolem.mp t2
  obtain ⟨F3, g3⟩ := Classical.skolem.mp t3
  have g4 := fun k (hk : k < V) j (hj : j < 7) => t_viewer N hk (show j ≤ 6 by omega)
  obtain ⟨⟨S, B, C, R⟩, -, ⟨b1, b2, b3, b4, b5⟩, ⟨d4, d5, d6, d7⟩, I, VR⟩ := N
  refine ⟨fo2 (fun k j => fa (k * 7 + j)) 7 V (fo2 F3 5 HN (fo2 F2 3 n (fo F1 14 0))), ?_, ?_⟩
  · unfold X6_checksum
    refine (k_s (fun j hj => (g1 j hj).1) 0 FU 0 0 (by unfold FU; omega) (Nat.zero_le _) rfl).trans ?_
    refine (k_p_out S.2.2.1.2 (fun k hk j hj => (g2 k j hk hj).1) _ FU 0 _ (by have := S.2.2.1.2; unfold FU; omega) (Nat.zero_le _) (fo2_z _ _ _).symm).trans ?_
    refine (k_h_out S.2.2.2.1 (fun k hk j hj => (g3 k j hk hj).1) _ FU 0 _ (by have := S.2.2.2.1; unfold FU; omega) (Nat.zero_le _) (fo2_z _ _ _).symm).trans ?_
    exact k_v_out b3 (fun k hk j hj => (g4 k hk j hj).1) _ FU 0 _ (by unfold FU; omega) (Nat.zero_le _) (fo2_z _ _ _).symm
  · unfold X7_checksum
    refine (l_s (fun j hj => (g1 j hj).2) 0 FU 0 0 (by unfold FU; omega) (Nat.zero_le _) rfl).trans ?_
    refine (l_p_out S.2.2.1.2 R.2.2.1 (fun k hk j hj => (g2 k j hk hj).2) _ FU 0 _ (by have := S.2.2.1.2; unfold FU; omega) (Nat.zero_le _) (fo2_z _ _ _).symm).trans ?_
    refine (l_h_out S.2.2.2.1 R.2.2.2.1 (fun k hk j hj => (g3 k j hk hj).2) _ FU 0 _ (by have := S.2.2.2.1; unfold FU; omega) (Nat.zero_le _) (fo2_z _ _ _).symm).trans ?_
    exact l_v_out b3 d7 (fun k hk j hj => (g4 k hk j hj).2) _ FU 0 _ (by unfold FU; omega) (Nat.zero_le _) (fo2_z _ _ _).symm
end CHK
