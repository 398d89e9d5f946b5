/-! PHASE 2: both sides' looks, from one box -/
/-- kinds are -1 or under 26, the back isn't open and isn't pulled -/
def KBox (w h n : Nat) (cells : Nat → Int32) (pull : Nat → Nat) : Prop :=
  (∀ p, p < n → ∀ y, y < h → ∀ x, x < w → cells (p * 96 + y * 12 + x) = -1 ∨ ∃ kk, kk < 26 ∧ cells (p * 96 + y * 12 + x) = nI kk) ∧ (∀ y, y < h → ∀ x, x < w → cells ((n - 1) * 96 + y * 12 + x) ≠ -1) ∧ pull (n - 1) = 0
theorem Kx_kind {w h n : Nat} {cells : Nat → Int32} {pull : Nat → Nat} (B : KBox w h n cells pull) {hx hy x y p : Nat} (hX : hx < w) (hY : hy < h) (xx : x < w) (yy : y < h) (hp : p < n) : Kx w h n cells pull hx hy x y p = -1 ∨ ∃ kk, kk < 26 ∧ Kx w h n cells pull hx hy x y p = nI kk := by
  unfold Kx Kd
  by_cases c : h ≤ cross hy y p n + pull p
  · exact Or.inl (if_pos c)
  · rw [if_neg c]
    exact B.1 p hp _ (by omega) _ (cross_lt hp hX xx)
theorem Kx_back {w h n : Nat} {cells : Nat → Int32} {pull : Nat → Nat} (B : KBox w h n cells pull) {hx hy x y : Nat} (hX : hx < w) (hY : hy < h) (xx : x < w) (yy : y < h) (hn : 0 < n) : Kx w h n cells pull hx hy x y (n - 1) ≠ -1 := by
  unfold Kx Kd
  have c2 : cross hy y (n - 1) n < h := cross_lt (by omega) hY yy
  rw [B.2.2, if_neg (by omega)]
  exact B.2.1 _ (by omega) _ (cross_lt (by omega) hX xx)
/-- the plane and the kind that the target t shows through a hole -/
def spB (w h n : Nat) (cells : Nat → Int32) (pull : Nat → Nat) (hx hy t : Nat) : Nat := seeP (Kx w h n cells pull hx hy (t % w) (t / w)) n
def skB (w h n : Nat) (cells : Nat → Int32) (pull : Nat → Nat) (hx hy t : Nat) : Nat := (Kx w h n cells pull hx hy (t % w) (t / w) (spB w h n cells pull hx hy t)).toNatClampNeg
theorem skB_spec {w h n : Nat} {cells : Nat → Int32} {pull : Nat → Nat} (B : KBox w h n cells pull) {hx hy t : Nat} (hw : 0 < w) (hn : 0 < n) (hX : hx < w) (hY : hy < h) (ht : t < w * h) : skB w h n cells pull hx hy t < 26 ∧ Kx w h n cells pull hx hy (t % w) (t / w) (spB w h n cells pull hx hy t) = nI (skB w h n cells pull hx hy t) := by
  have xx : t % w < w := Nat.mod_lt _ hw
  have yy : t / w < h := Nat.div_lt_of_lt_mul ht
  have hne : Kx w h n cells pull hx hy (t % w) (t / w) (spB w h n cells pull hx hy t) ≠ -1 := firstP_no _ (n - 1) 0 (by rw [Nat.zero_add]; exact Kx_back B hX hY xx yy hn)
  rcases Kx_kind B hX hY xx yy (seeP_lt (Kx w h n cells pull hx hy (t % w) (t / w)) hn) with e | ⟨kk, hkk, e⟩
  · exact absurd e hne
  · have e2 : Kx w h n cells pull hx hy (t % w) (t / w) (spB w h n cells pull hx hy t) = nI kk := e
    unfold skB
    rw [e2, nI_clamp (by omega)]
    exact ⟨hkk, rfl⟩
theorem RSee_of {w h n : Nat} {cells : Nat → Int32} {pull : Nat → Nat} {HN : Nat} {hx hy : Nat → Nat} {data : Nat → Int32} (R : RBox w h n cells pull HN hx hy data) (S : SBox w h n pull HN hx hy) (B : KBox w h n cells pull) {k : Nat} {i : Int32} (hi : i = nI k) (hk : k < HN) : RSee data i (w * h) (spB w h n cells pull (hx k) (hy k)) (skB w h n cells pull (hx k) (hy k)) := by
  have hm : w * h ≤ 12 * 8 := Nat.mul_le_mul S.1.2 S.2.1.2
  have hX := (S.2.2.2.2.2 k hk).1
  have hY := (S.2.2.2.2.2 k hk).2
  refine ⟨?_, ⟨Nat.mul_pos S.1.1 S.2.1.1, by omega⟩, fun t ht => ?_⟩
  · unfold X7_cells
    refine (q_ld data 0 _ rfl (by omega) (by omega)).trans ?_
    refine (q_ld data 1 _ rfl (by omega) (by omega)).trans ?_
    rw [R.1, R.2.1, pk_mul]
  · have hback := Kx_back B hX hY (Nat.mod_lt t S.1.1) (Nat.div_lt_of_lt_mul ht) S.2.2.1.1
    have hs := skB_spec B S.1.1 S.2.2.1.1 hX hY ht
    have hl := seeP_lt (Kx w h n cells pull (hx k) (hy k) (t % w) (t / w)) S.2.2.1.1
    exact ⟨r_planeSeen R S hi rfl hk ht hback, (r_kindSeen R S hi rfl hk ht hback).trans (by rw [← hs.2]; rfl), Nat.lt_of_lt_of_le hl S.2.2.1.2, hs.1⟩
theorem tgt_x {w x y : Nat} (hx : x < w) : (y * w + x) % w = x := by rw [Nat.add_comm, Nat.add_mul_mod_self_right, Nat.mod_eq_of_lt hx]
theorem tgt_y {w x y : Nat} (hx : x < w) : (y * w + x) / w = y := by rw [Nat.add_comm, Nat.add_mul_div_right _ _ (by omega), Nat.div_eq_of_lt hx, Nat.zero_add]
theorem tgt_lt {w h x y : Nat} (hx : x < w) (hy : y < h) : y * w + x < w * h := by
  have : (y + 1) * w ≤ h * w := Nat.mul_le_mul_right w hy
  rw [Nat.succ_mul] at this
  rw [Nat.mul_comm w h]
  omega
/-- the class's rows hold the same box -/
def CBox (n : Nat) (pull : Nat → Nat) (HN : Nat) (hx hy : Nat → Nat) (pulls holeX holeY : Nat → Int32) : Prop :=
  (∀ p, p < n → pulls p = nI (pull p)) ∧ ∀ k, k < HN → holeX k = nI (hx k) ∧ holeY k = nI (hy k)
theorem hsee_of {w h n : Nat} {cells pulls holeX holeY : Nat → Int32} {pull : Nat → Nat} {HN : Nat} {hx hy : Nat → Nat} (C : CBox n pull HN hx hy pulls holeX holeY) (S : SBox w h n pull HN hx hy) (B : KBox w h n cells pull) {k : Nat} {i : Int32} (hi : i = nI k) (hk : k < HN) : ∀ y, y < h → ∀ x, x < w → X0_seenFrom (nI h) (nI n) cells pulls holeX holeY i (nI x) (nI y) = some (nI (100 * spB w h n cells pull (hx k) (hy k) (y * w + x) + skB w h n cells pull (hx k) (hy k) (y * w + x))) ∧ spB w h n cells pull (hx k) (hy k) (y * w + x) < 5 ∧ skB w h n cells pull (hx k) (hy k) (y * w + x) < 26 := by
  intro y yy x xx
  have hX := (S.2.2.2.2.2 k hk).1
  have hY := (S.2.2.2.2.2 k hk).2
  have hs := skB_spec B S.1.1 S.2.2.1.1 hX hY (tgt_lt xx yy)
  have hl := seeP_lt (Kx w h n cells pull (hx k) (hy k) ((y * w + x) % w) ((y * w + x) / w)) S.2.2.1.1
  refine ⟨?_, Nat.lt_of_lt_of_le hl S.2.2.1.2, hs.1⟩
  have hmain := q_seenFrom (cells := cells) (pulls := pulls) (holeX := holeX) (holeY := holeY) i (nI x) (nI y) hi rfl rfl (Nat.lt_of_lt_of_le hk S.2.2.2.1) (C.2 k hk).1 (C.2 k hk).2 hX hY S.1.2 S.2.1.2 S.2.2.1.1 S.2.2.1.2 xx yy (fun p hp => ⟨C.1 p hp, Nat.le_trans (S.2.2.2.2.1 p hp) S.2.1.2⟩) (fun p hp => Kx_kind B hX hY xx yy hp) (Kx_back B hX hY xx yy S.2.2.1.1)
  rw [hmain]
  unfold skB spB
  rw [tgt_x xx, tgt_y xx]
