/-! PHASE 2: the reference's looks, by its one row -/
/-- the row data holds the box of w, h, n, cells, pulls and holes -/
def RBox (w h n : Nat) (cells : Nat → Int32) (pull : Nat → Nat) (HN : Nat) (hx hy : Nat → Nat) (data : Nat → Int32) : Prop :=
  data 0 = nI w ∧ data 1 = nI h ∧ data 2 = nI n ∧ data 3 = nI HN ∧ (∀ p, p < n → data (10 + p) = nI (pull p)) ∧ (∀ p, p < n → ∀ y, y < h → ∀ x, x < w → data (15 + 96 * p + w * y + x) = cells (p * 96 + y * 12 + x)) ∧ ∀ k, k < HN → data (495 + 2 * k) = nI (hx k) ∧ data (495 + 2 * k + 1) = nI (hy k)
/-- the sizes of a box -/
def SBox (w h n : Nat) (pull : Nat → Nat) (HN : Nat) (hx hy : Nat → Nat) : Prop :=
  (0 < w ∧ w ≤ 12) ∧ (0 < h ∧ h ≤ 8) ∧ (0 < n ∧ n ≤ 5) ∧ HN ≤ 4 ∧ (∀ p, p < n → pull p ≤ h) ∧ ∀ k, k < HN → hx k < w ∧ hy k < h
theorem r_kindAt {w h n : Nat} {cells : Nat → Int32} {pull : Nat → Nat} {HN : Nat} {hx hy : Nat → Nat} {data : Nat → Int32} (R : RBox w h n cells pull HN hx hy data) (S : SBox w h n pull HN hx hy) {p x y : Nat} {i j k : Int32} (hi : i = nI p) (hj : j = nI x) (hk : k = nI y) (hp : p < n) (xx : x < w) (yy : y < h) : X7_kindAt data i j k = some (Kd h cells pull p x y) := by
  obtain ⟨r0, r1, r2, r3, r4, r5, r6⟩ := R
  obtain ⟨sw, sh, sn, sH, sp, sk⟩ := S
  have hb := sp p hp
  unfold X7_kindAt Kd
  refine (q_ld data (10 + p) _ (by rw [hi, q_lit, nI_add]) (by omega) (by omega)).trans ?_
  refine (q_nm _ _).trans ?_
  refine (q_ld data 1 _ rfl (by omega) (by omega)).trans ?_
  show (if data 1 ≤ k + data (10 + p) then _ else _) = _
  rw [r1, r4 p hp, hk, nI_add]
  by_cases c : h ≤ y + pull p
  · exact (if_pos (nI_le c (by omega))).trans (by rw [if_pos c])
  · refine (if_neg (nI_ge (show y + pull p < h by omega) (by omega))).trans ?_
    refine (q_ld data 0 _ rfl (by omega) (by omega)).trans ?_
    have hm : w * (y + pull p) ≤ 12 * 8 := Nat.mul_le_mul sw.2 (by omega)
    refine (q_ld data (15 + 96 * p + w * (y + pull p) + x) _ (by rw [r0, hi, hj, q_lit, q_lit, pk_mul, pk_mul, nI_add, nI_add, nI_add]) (by omega) (by omega)).trans ?_
    rw [if_neg c, r5 p hp (y + pull p) (by omega) x xx]
theorem r_holeX {w h n : Nat} {cells : Nat → Int32} {pull : Nat → Nat} {HN : Nat} {hx hy : Nat → Nat} {data : Nat → Int32} (R : RBox w h n cells pull HN hx hy data) (S : SBox w h n pull HN hx hy) {k : Nat} {i : Int32} (hi : i = nI k) (hk : k < HN) : X7_holeX data i = some (nI (hx k)) := by
  obtain ⟨r0, r1, r2, r3, r4, r5, r6⟩ := R
  obtain ⟨sw, sh, sn, sH, sp, sk⟩ := S
  unfold X7_holeX
  refine (q_ld data (495 + 2 * k) _ (by rw [hi, q_lit, q_lit, pk_mul, nI_add]) (by omega) (by omega)).trans ?_
  rw [(r6 k hk).1]
theorem r_holeY {w h n : Nat} {cells : Nat → Int32} {pull : Nat → Nat} {HN : Nat} {hx hy : Nat → Nat} {data : Nat → Int32} (R : RBox w h n cells pull HN hx hy data) (S : SBox w h n pull HN hx hy) {k : Nat} {i : Int32} (hi : i = nI k) (hk : k < HN) : X7_holeY data i = some (nI (hy k)) := by
  obtain ⟨r0, r1, r2, r3, r4, r5, r6⟩ := R
  obtain ⟨sw, sh, sn, sH, sp, sk⟩ := S
  unfold X7_holeY
  refine (q_ld data (495 + 2 * k + 1) _ (by rw [hi, q_lit, q_lit, q_lit, pk_mul, nI_add, nI_add]) (by omega) (by omega)).trans ?_
  rw [(r6 k hk).2]
theorem nI_ne {n : Nat} (h0 : 0 < n) (h : n < 2 ^ 31) : ¬ nI n = 0 := nI_ne0 h0 h
theorem r_crossX {w h n : Nat} {cells : Nat → Int32} {pull : Nat → Nat} {HN : Nat} {hx hy : Nat → Nat} {data : Nat → Int32} (R : RBox w h n cells pull HN hx hy data) (S : SBox w h n pull HN hx hy) {k t p : Nat} {i j z : Int32} (hi : i = nI k) (hj : j = nI t) (hz : z = nI p) (hk : k < HN) (ht : t < w * h) (hp : p < n) : X7_crossX data i j z = some (nI (cross (hx k) (t % w) p n)) := by
  have hX := r_holeX R S hi hk
  obtain ⟨r0, r1, r2, r3, r4, r5, r6⟩ := id R
  obtain ⟨sw, sh, sn, sH, sp, sk⟩ := id S
  have hm : w * h ≤ 12 * 8 := Nat.mul_le_mul sw.2 sh.2
  have hxl := (sk k hk).1
  have hxt : t % w < w := Nat.mod_lt _ sw.1
  unfold X7_crossX
  refine (q_b1 hX).trans ?_
  refine (q_ld data 0 _ rfl (by omega) (by omega)).trans ?_
  rw [r0]
  refine (q_ck (nI_ne sw.1 (by omega)) _).trans ?_
  rw [hj, pk_rem (by omega) sw.1 (by omega)]
  show bn1 (X7_holeX data i) _ = _
  refine (q_b1 hX).trans ?_
  refine (q_ld data 2 _ rfl (by omega) (by omega)).trans ?_
  rw [r2]
  refine (q_ck (nI_ne sn.1 (by omega)) _).trans ?_
  rw [hz]
  show some (nI (hx k) + (((nI (t % w) - nI (hx k)) * (nI p + 1)) / nI n)) = _
  rw [cross_32 (by omega) (by omega) hp sn.2]
theorem r_crossY {w h n : Nat} {cells : Nat → Int32} {pull : Nat → Nat} {HN : Nat} {hx hy : Nat → Nat} {data : Nat → Int32} (R : RBox w h n cells pull HN hx hy data) (S : SBox w h n pull HN hx hy) {k t p : Nat} {i j z : Int32} (hi : i = nI k) (hj : j = nI t) (hz : z = nI p) (hk : k < HN) (ht : t < w * h) (hp : p < n) : X7_crossY data i j z = some (nI (cross (hy k) (t / w) p n)) := by
  have hY := r_holeY R S hi hk
  obtain ⟨r0, r1, r2, r3, r4, r5, r6⟩ := id R
  obtain ⟨sw, sh, sn, sH, sp, sk⟩ := id S
  have hm : w * h ≤ 12 * 8 := Nat.mul_le_mul sw.2 sh.2
  have hyl := (sk k hk).2
  have hyt : t / w < h := Nat.div_lt_of_lt_mul ht
  unfold X7_crossY
  refine (q_b1 hY).trans ?_
  refine (q_ld data 0 _ rfl (by omega) (by omega)).trans ?_
  rw [r0]
  refine (q_ck (nI_ne sw.1 (by omega)) _).trans ?_
  refine (q_b1 hY).trans ?_
  refine (q_ld data 2 _ rfl (by omega) (by omega)).trans ?_
  rw [r2]
  refine (q_ck (nI_ne sn.1 (by omega)) _).trans ?_
  rw [hj, hz, pk_div (by omega) sw.1 (by omega)]
  show some (nI (hy k) + (((nI (t / w) - nI (hy k)) * (nI p + 1)) / nI n)) = _
  rw [cross_32 (by omega) (by omega) hp sn.2]
theorem r_seenLoop {w h n : Nat} {cells : Nat → Int32} {pull : Nat → Nat} {HN : Nat} {hx hy : Nat → Nat} {data : Nat → Int32} (R : RBox w h n cells pull HN hx hy data) (S : SBox w h n pull HN hx hy) {k t : Nat} {i j : Int32} (hi : i = nI k) (hj : j = nI t) (hk : k < HN) (ht : t < w * h) (hback : Kx w h n cells pull (hx k) (hy k) (t % w) (t / w) (n - 1) ≠ -1) :
    ∀ fuel m p : Nat, m < fuel → p + m + 1 = n → X7_planeSeen_L2 data i j fuel (nI p) = some (nI (firstP (Kx w h n cells pull (hx k) (hy k) (t % w) (t / w)) m p))
  | 0, m, p, hf, _ => absurd hf (Nat.not_lt_zero _)
  | fuel + 1, m, p, hf, hpm => by
    have hp : p < n := by omega
    have c1 : cross (hx k) (t % w) p n < w := cross_lt hp (S.2.2.2.2.2 k hk).1 (Nat.mod_lt _ S.1.1)
    have c2 : cross (hy k) (t / w) p n < h := cross_lt hp (S.2.2.2.2.2 k hk).2 (Nat.div_lt_of_lt_mul ht)
    rw [X7_planeSeen_L2]
    refine (q_b1 (r_crossX R S hi hj rfl hk ht hp)).trans ?_
    refine (q_b1 (r_crossY R S hi hj rfl hk ht hp)).trans ?_
    refine (q_b1 (r_kindAt R S rfl rfl rfl hp c1 c2)).trans ?_
    by_cases c : Kx w h n cells pull (hx k) (hy k) (t % w) (t / w) p = -1
    · refine (if_pos c).trans ?_
      cases m with
      | zero =>
        rw [show p = n - 1 by omega] at c
        exact absurd c hback
      | succ m =>
        show X7_planeSeen_L2 data i j fuel (nI p + 1) = _
        rw [nI_1, show firstP (Kx w h n cells pull (hx k) (hy k) (t % w) (t / w)) (m + 1) p = firstP (Kx w h n cells pull (hx k) (hy k) (t % w) (t / w)) m (p + 1) from if_pos c]
        exact r_seenLoop R S hi hj hk ht hback fuel m (p + 1) (by omega) (by omega)
    · refine (if_neg c).trans ?_
      cases m with
      | zero => rfl
      | succ m => rw [show firstP (Kx w h n cells pull (hx k) (hy k) (t % w) (t / w)) (m + 1) p = p from if_neg c]
theorem r_planeSeen {w h n : Nat} {cells : Nat → Int32} {pull : Nat → Nat} {HN : Nat} {hx hy : Nat → Nat} {data : Nat → Int32} (R : RBox w h n cells pull HN hx hy data) (S : SBox w h n pull HN hx hy) {k t : Nat} {i j : Int32} (hi : i = nI k) (hj : j = nI t) (hk : k < HN) (ht : t < w * h) (hback : Kx w h n cells pull (hx k) (hy k) (t % w) (t / w) (n - 1) ≠ -1) : X7_planeSeen data i j = some (nI (seeP (Kx w h n cells pull (hx k) (hy k) (t % w) (t / w)) n)) := by
  unfold X7_planeSeen seeP
  exact r_seenLoop R S hi hj hk ht hback FU (n - 1) 0 (by have := S.2.2.1.2; unfold FU; omega) (by have := S.2.2.1.1; omega)
theorem seeP_lt (K : Nat → Int32) {n : Nat} (h : 0 < n) : seeP K n < n := by
  have := (firstP_le K (n - 1) 0).2
  unfold seeP
  omega
theorem r_kindSeen {w h n : Nat} {cells : Nat → Int32} {pull : Nat → Nat} {HN : Nat} {hx hy : Nat → Nat} {data : Nat → Int32} (R : RBox w h n cells pull HN hx hy data) (S : SBox w h n pull HN hx hy) {k t : Nat} {i j : Int32} (hi : i = nI k) (hj : j = nI t) (hk : k < HN) (ht : t < w * h) (hback : Kx w h n cells pull (hx k) (hy k) (t % w) (t / w) (n - 1) ≠ -1) : X7_kindSeen data i j = some (Kx w h n cells pull (hx k) (hy k) (t % w) (t / w) (seeP (Kx w h n cells pull (hx k) (hy k) (t % w) (t / w)) n)) := by
  have hp := seeP_lt (Kx w h n cells pull (hx k) (hy k) (t % w) (t / w)) S.2.2.1.1
  unfold X7_kindSeen
  refine (q_b1 (r_planeSeen R S hi hj hk ht hback)).trans ?_
  refine (q_b1 (r_crossX R S hi hj rfl hk ht hp)).trans ?_
  refine (q_b1 (r_crossY R S hi hj rfl hk ht hp)).trans ?_
  exact q_b1 (r_kindAt R S rfl rfl rfl hp (cross_lt hp (S.2.2.2.2.2 k hk).1 (Nat.mod_lt _ S.1.1)) (cross_lt hp (S.2.2.2.2.2 k hk).2 (Nat.div_lt_of_lt_mul ht)))
