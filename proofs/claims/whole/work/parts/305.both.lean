/-! PHASE 2: both sides' looks, from one box -/
/-- kinds are -1 or under 26, the back isn't open and isn't pulled -/
def KBox (w h n : Nat) (cells : Nat → Int32) (pull : Nat → Nat) : Prop :=
  (∀ p, p < n → ∀ y, y < h → ∀ x, x < w → cells (p * 96 + y * 12 + x) = -1 ∨ ∃ kk, kk < 26 ∧ cells (p * 96 + y * 12 + x) = nI kk) ∧ (∀ y, y < h → ∀ x, x < w → cells ((n - 1) * 96 + y * 12 + x) ≠ -1) ∧ pull (n - 1) = 0
theorem Kx_kind {w h n : Nat} {cells : Nat → Int32} {pull : Nat → Nat} (B : KBox w h n cells pull) {hx hy x y p : Nat} (hX : hx < w) (hY : hy < h) (xx : x < w) (yy : y < h) (hp : p < n) : Kx w h n cells pull hx hy x y p = -1 ∨ ∃ kk, kk < 26 ∧ Kx w h n cells pull hx hy x y p = nI kk := by
  unfold Kx Kd
  by_cases c : h ≤ cross hy y p n + pull p
  · exact Or.inl (if_pos c)
  · rw [if_neg c]
    exact B.1 p hp _ (by omega) _ (cross_lt hp hX xx)
theorem Kx_back {w h n : Nat} {cells : Nat → Int32} {pull : Nat → Nat} (B : KBox w h n cells pull) {hx hy x y : Nat} (hX : hx < w) (hY : hy < h) (xx : x < w) (yy : y < h) (hn : 0 < n) : Kx w h n cells pull hx hy x y (n - 1) ≠ -1 := by
  unfold Kx Kd
  have c2 : cross hy y (n - 1) n < h := cross_lt (by omega) hY yy
  rw [B.2.2, if_neg (by omega)]
  exact B.2.1 _ (by omega) _ (cross_lt (by omega) hX xx)
/-- the plane and the kind that the target t shows through a hole -/
def spB (w h n : Nat) (cells : Nat → Int32) (pull : Nat → Nat) (hx hy t : Nat) : Nat := seeP (Kx w h n cells pull hx hy (t % w) (t / w)) n
def skB (w h n : Nat) (cells : Nat → Int32) (pull : Nat → Nat) (hx hy t : Nat) : Nat := (Kx w h n cells pull hx hy (t % w) (t / w) (spB w h n cells pull hx hy t)).toNatClampNeg
theorem skB_spec {w h n : Nat} {cells : Nat → Int32} {pull : Nat → Nat} (B : KBox w h n cells pull) {hx hy t : Nat} (hw : 0 < w) (hn : 0 < n) (hX : hx < w) (hY : hy < h) (ht : t < w * h) : skB w h n cells pull hx hy t < 26 ∧ Kx w h n cells pull hx hy (t % w) (t / w) (spB w h n cells pull hx hy t) = nI (skB w h n cells pull hx hy t) := by
  have xx : t % w < w := Nat.mod_lt _ hw
  have yy : t / w < h := Nat.div_lt_of_lt_mul ht
  have hne : Kx w h n cells pull hx hy (t % w) (t / w) (spB w h n cells pull hx hy t) ≠ -1 := firstP_no _ (n - 1) 0 (by rw [Nat.zero_add]; exact Kx_back B hX hY xx yy hn)
  rcases Kx_kind B hX hY xx yy (seeP_lt (Kx w h n cells pull hx hy (t % w) (t / w)) hn) with e | ⟨kk, hkk, e⟩
  · exact absurd e hne
  · have e2 : Kx w h n cells pull hx hy (t % w) (t / w) (spB w h n cells pull hx hy t) = nI kk := e
    unfold skB
    rw [e2, nI_clamp (by omega)]
    exact ⟨hkk, rfl⟩
theorem RSee_of {w h n : Nat} {cells : Nat → Int32} {pull : Nat → Nat} {HN : Nat} {hx hy : Nat → Nat} {data : Nat → Int32} (R : RBox w h n cells pull HN hx hy data) (S : SBox w h n pull HN hx hy) (B : KBox w h n cells pull) {k : Nat} {i : Int32} (hi : i = nI k) (hk : k < HN) : RSee data i (w * h) (spB w h n cells pull (hx k) (hy k)) (skB w h n cells pull (hx k) (hy k)) := by
  have hm : w * h ≤ 12 * 8 := Nat.mul_le_mul S.1.2 S.2.1.2
  have hX := (S.2.2.2.2.2 k hk).1
  have hY := (S.2.2.2.2.2 k hk).2
  refine ⟨?_, ⟨Nat.mul_pos S.1.1 S.2.1.1, by omega⟩, fun t ht => ?_⟩
  · unfold X7_cells
    refine (q_ld data 0 _ rfl (by omega) (by omega)).trans ?_
    refine (q_ld data 1 _ rfl (by omega) (by omega)).trans ?_
    rw [R.1, R.2.1, pk_mul]
  · have hback := Kx_back B hX hY (Nat.mod_lt t S.1.1) (Nat.div_lt_of_lt_mul ht) S.2.2.1.1
    have hs := skB_spec B S.1.1 S.2.2.1.1 hX hY ht
    have hl := seeP_lt (Kx w h n cells pull (hx k) (hy k) (t % w) (t / w)) S.2.2.1.1
    exact ⟨r_planeSeen R S hi rfl hk ht hback, (r_kindSeen R S hi rfl hk ht hback).trans (by rw [← hs.2]; rfl), Nat.lt_of_lt_of_le hl S.2.2.1.2, hs.1⟩
