/-! PHASE 2: where a look crosses a plane, what stands there -/
/-- where a look from a to b crosses the plane p of n -/
def cross (a b p n : Nat) : Nat := if a ≤ b then a + (b - a) * (p + 1) / n else a - (a - b) * (p + 1) / n
theorem cross_div {d p n : Nat} (h : p < n) : d * (p + 1) / n ≤ d := by
  have h1 : d * (p + 1) ≤ d * n := Nat.mul_le_mul_left d h
  exact Nat.le_trans (Nat.div_le_div_right h1) (by rw [Nat.mul_div_cancel d (by omega)]; exact Nat.le_refl d)
theorem cross_lt {a b p n M : Nat} (h : p < n) (ha : a < M) (hb : b < M) : cross a b p n < M := by
  unfold cross
  split
  · have := cross_div (d := b - a) h
    omega
  · exact Nat.lt_of_le_of_lt (Nat.sub_le _ _) ha
theorem cross_last {a b n : Nat} (h : 0 < n) : cross a b (n - 1) n = b := by
  unfold cross
  rw [show n - 1 + 1 = n by omega, Nat.mul_div_cancel _ h, Nat.mul_div_cancel _ h]
  split <;> omega
set_option maxRecDepth 100000 in
theorem cross_all32 : ∀ a : Fin 12, ∀ b : Fin 12, ∀ n : Fin 5, ∀ p : Fin 5, p.val ≤ n.val → nI a.val + (((nI b.val - nI a.val) * (nI p.val + 1)) / nI (n.val + 1)) = nI (cross a.val b.val p.val (n.val + 1)) := by decide +kernel
set_option maxRecDepth 100000 in
theorem cross_all64 : ∀ a : Fin 12, ∀ b : Fin 12, ∀ n : Fin 5, ∀ p : Fin 5, p.val ≤ n.val → nI a.val + (((nI b.val - nI a.val) * (nI p.val + 1)).toInt64 / (nI (n.val + 1)).toInt64).toInt32 = nI (cross a.val b.val p.val (n.val + 1)) := by decide +kernel
theorem cross_32 {a b p n : Nat} (ha : a < 12) (hb : b < 12) (hp : p < n) (hn : n ≤ 5) : nI a + (((nI b - nI a) * (nI p + 1)) / nI n) = nI (cross a b p n) := by
  have h := cross_all32 ⟨a, ha⟩ ⟨b, hb⟩ ⟨n - 1, by omega⟩ ⟨p, by omega⟩ (by show p ≤ n - 1; omega)
  rw [show n = n - 1 + 1 by omega]
  exact h
theorem cross_64 {a b p n : Nat} (ha : a < 12) (hb : b < 12) (hp : p < n) (hn : n ≤ 5) : nI a + (((nI b - nI a) * (nI p + 1)).toInt64 / (nI n).toInt64).toInt32 = nI (cross a b p n) := by
  have h := cross_all64 ⟨a, ha⟩ ⟨b, hb⟩ ⟨n - 1, by omega⟩ ⟨p, by omega⟩ (by show p ≤ n - 1; omega)
  rw [show n = n - 1 + 1 by omega]
  exact h
set_option maxRecDepth 100000 in
theorem n64_ne : ∀ n : Fin 5, lg_cmp (nI (n.val + 1)).toInt64 0 ≠ 0 ∧ (nI (n.val + 1)).toInt64 ≠ 0 := by decide +kernel
theorem q_crossing {a b p n : Nat} {x y z w : Int32} (hx : x = nI a) (hy : y = nI b) (hz : z = nI p) (hw : w = nI n) (ha : a < 12) (hb : b < 12) (hp : p < n) (hn : n ≤ 5) : X0_crossing w x y z = some (nI (cross a b p n)) := by
  subst hx hy hz hw
  have hne := n64_ne ⟨n - 1, by omega⟩
  rw [show (⟨n - 1, by omega⟩ : Fin 5).val + 1 = n from by show n - 1 + 1 = n; omega] at hne
  have hq : X6_quotient ((nI b - nI a) * (nI p + 1)).toInt64 (nI n).toInt64 = some (((nI b - nI a) * (nI p + 1)).toInt64 / (nI n).toInt64) := by
    unfold X6_quotient
    exact (if_neg hne.1).trans (q_ck hne.2 _)
  unfold X0_crossing
  refine (q_b1 hq).trans ?_
  rw [cross_64 ha hb hp hn]
/-- what stands at x, y of the plane p, by the class's rows -/
def Kd (h : Nat) (cells : Nat → Int32) (pull : Nat → Nat) (p x y : Nat) : Int32 := if h ≤ y + pull p then -1 else cells (p * 96 + (y + pull p) * 12 + x)
theorem q_kindAt {h p x y : Nat} {cells pulls : Nat → Int32} {pull : Nat → Nat} {i j k : Int32} (hi : i = nI p) (hj : j = nI x) (hk : k = nI y) (hp : p < 5) (hx : x < 12) (hh : h ≤ 8) (hpl : pulls p = nI (pull p)) (hb : pull p ≤ 8) (hy : y < 8) : X0_kindAt (nI h) cells pulls i j k = some (Kd h cells pull p x y) := by
  unfold X0_kindAt Kd
  refine (q_ld pulls p _ hi hp (by omega)).trans ?_
  show (if nI h ≤ k + pulls p then _ else _) = _
  rw [hpl, hk, nI_add]
  by_cases c : h ≤ y + pull p
  · exact (if_pos (nI_le c (by omega))).trans (by rw [if_pos c])
  · refine (if_neg (nI_ge (show y + pull p < h by omega) (by omega))).trans ?_
    refine (q_ld cells (p * 96 + (y + pull p) * 12 + x) _ (by rw [hi, hj, q_lit, q_lit, pk_mul, pk_mul, nI_add, nI_add]) (by omega) (by omega)).trans ?_
    rw [if_neg c]
/-- the kind on the look's way, by the class's rows -/
def Kx (w h n : Nat) (cells : Nat → Int32) (pull : Nat → Nat) (hx hy : Nat) (x y p : Nat) : Int32 := Kd h cells pull p (cross hx x p n) (cross hy y p n)
theorem q_crossedKind {w h n k p x y : Nat} {cells pulls holeX holeY : Nat → Int32} {pull : Nat → Nat} {hx hy : Nat} (i1 i2 i3 i4 : Int32) (e1 : i1 = nI k) (e2 : i2 = nI p) (e3 : i3 = nI x) (e4 : i4 = nI y) (hk : k < 4) (hX : holeX k = nI hx) (hY : holeY k = nI hy) (lx : hx < w) (ly : hy < h) (lw : w ≤ 12) (lh : h ≤ 8) (hp : p < n) (hn : n ≤ 5) (xx : x < w) (yy : y < h) (hpl : pulls p = nI (pull p)) (hb : pull p ≤ 8) :
    X0_crossedKind (nI h) (nI n) cells pulls holeX holeY i1 i2 i3 i4 = some (Kx w h n cells pull hx hy x y p) := by
  unfold X0_crossedKind
  refine (q_ld holeX k _ e1 hk (by omega)).trans ?_
  refine (q_b1 (q_crossing hX e3 e2 rfl (by omega) (by omega) hp hn)).trans ?_
  refine (q_ld holeY k _ e1 hk (by omega)).trans ?_
  refine (q_b1 (q_crossing hY e4 e2 rfl (by omega) (by omega) hp hn)).trans ?_
  have c1 : cross hx x p n < w := cross_lt hp lx xx
  have c2 : cross hy y p n < h := cross_lt hp ly yy
  exact q_b1 (q_kindAt e2 rfl rfl (by omega) (by omega) lh hpl hb (by omega))
/-- the first plane from p on, of at most m more, where the look isn't open -/
def firstP (K : Nat → Int32) : Nat → Nat → Nat
  | 0, p => p
  | m + 1, p => if K p = -1 then firstP K m (p + 1) else p
theorem firstP_le (K : Nat → Int32) : ∀ m p : Nat, p ≤ firstP K m p ∧ firstP K m p ≤ p + m
  | 0, p => ⟨Nat.le_refl _, Nat.le_refl _⟩
  | m + 1, p => by
    unfold firstP
    split
    · have := firstP_le K m (p + 1)
      omega
    · omega
theorem firstP_no (K : Nat → Int32) : ∀ m p : Nat, K (p + m) ≠ -1 → K (firstP K m p) ≠ -1
  | 0, p, h => h
  | m + 1, p, h => by
    unfold firstP
    split
    · exact firstP_no K m (p + 1) (by rw [show p + 1 + m = p + (m + 1) by omega]; exact h)
    · assumption
theorem ne_m1 {k : Nat} (h : k < 26) : nI k ≠ -1 := by
  have : ∀ k : Fin 26, nI k.val ≠ -1 := by decide +kernel
  exact this ⟨k, h⟩
/-- the plane that a look sees, and 100 times it plus the kind -/
def seeP (K : Nat → Int32) (n : Nat) : Nat := firstP K (n - 1) 0
theorem q_seenLoop {w h n k x y : Nat} {cells pulls holeX holeY : Nat → Int32} {pull : Nat → Nat} {hx hy : Nat} (i1 i3 i4 : Int32) (e1 : i1 = nI k) (e3 : i3 = nI x) (e4 : i4 = nI y) (hk : k < 4) (hX : holeX k = nI hx) (hY : holeY k = nI hy) (lx : hx < w) (ly : hy < h) (lw : w ≤ 12) (lh : h ≤ 8) (hn : n ≤ 5) (xx : x < w) (yy : y < h)
    (hpl : ∀ p, p < n → pulls p = nI (pull p) ∧ pull p ≤ 8) (hK : ∀ p, p < n → Kx w h n cells pull hx hy x y p = -1 ∨ ∃ kk, kk < 26 ∧ Kx w h n cells pull hx hy x y p = nI kk) (hback : Kx w h n cells pull hx hy x y (n - 1) ≠ -1) :
    ∀ fuel m p : Nat, m < fuel → p + m + 1 = n → X0_seenFrom_L14 (nI h) (nI n) cells pulls holeX holeY i1 i3 i4 fuel (nI p) (Kx w h n cells pull hx hy x y p) = some (nI (100 * firstP (Kx w h n cells pull hx hy x y) m p + (Kx w h n cells pull hx hy x y (firstP (Kx w h n cells pull hx hy x y) m p)).toNatClampNeg))
  | 0, m, p, hf, _ => absurd hf (Nat.not_lt_zero _)
  | fuel + 1, m, p, hf, hpm => by
    have hend : ∀ q : Nat, q < n → Kx w h n cells pull hx hy x y q ≠ -1 → X0_seenFrom_J48 (nI h) (nI n) cells pulls holeX holeY i1 i3 i4 (nI q) (Kx w h n cells pull hx hy x y q) = some (nI (100 * q + (Kx w h n cells pull hx hy x y q).toNatClampNeg)) := by
      intro q hq hne
      rcases hK q hq with e | ⟨kk, hkk, e⟩
      · exact absurd e hne
      · unfold X0_seenFrom_J48
        rw [e]
        show some ((100 : Int32) * nI q + (if nI kk < 0 then (0 : Int32) else nI kk)) = _
        rw [if_neg (nI_pos (by omega)), q_lit, pk_mul, nI_add, nI_clamp (by omega)]
    rw [X0_seenFrom_L14]
    by_cases c : Kx w h n cells pull hx hy x y p = -1
    · refine (if_pos c).trans ?_
      cases m with
      | zero =>
        rw [show p = n - 1 by omega] at c
        exact absurd c hback
      | succ m =>
        refine (if_neg (by rw [show nI n - 1 = nI (n - 1) from pk_sub (b := 1) (by omega)]; exact nI_ge (by omega) (by omega))).trans ?_
        show bn1 (X0_crossedKind (nI h) (nI n) cells pulls holeX holeY i1 (nI p + 1) i3 i4) _ = _
        rw [nI_1]
        refine (q_b1 (q_crossedKind i1 (nI (p + 1)) i3 i4 e1 rfl e3 e4 hk hX hY lx ly lw lh (by omega) hn xx yy (hpl (p + 1) (by omega)).1 (hpl (p + 1) (by omega)).2)).trans ?_
        have hfp : firstP (Kx w h n cells pull hx hy x y) (m + 1) p = firstP (Kx w h n cells pull hx hy x y) m (p + 1) := if_pos c
        rw [hfp]
        exact q_seenLoop i1 i3 i4 e1 e3 e4 hk hX hY lx ly lw lh hn xx yy hpl hK hback fuel m (p + 1) (by omega) (by omega)
    · refine (if_neg c).trans ?_
      have hfp : firstP (Kx w h n cells pull hx hy x y) m p = p := by
        cases m with
        | zero => rfl
        | succ m => exact if_neg c
      rw [hfp]
      exact hend p (by omega) c
theorem q_seenFrom {w h n k x y : Nat} {cells pulls holeX holeY : Nat → Int32} {pull : Nat → Nat} {hx hy : Nat} (i1 i3 i4 : Int32) (e1 : i1 = nI k) (e3 : i3 = nI x) (e4 : i4 = nI y) (hk : k < 4) (hX : holeX k = nI hx) (hY : holeY k = nI hy) (lx : hx < w) (ly : hy < h) (lw : w ≤ 12) (lh : h ≤ 8) (h0 : 0 < n) (hn : n ≤ 5) (xx : x < w) (yy : y < h)
    (hpl : ∀ p, p < n → pulls p = nI (pull p) ∧ pull p ≤ 8) (hK : ∀ p, p < n → Kx w h n cells pull hx hy x y p = -1 ∨ ∃ kk, kk < 26 ∧ Kx w h n cells pull hx hy x y p = nI kk) (hback : Kx w h n cells pull hx hy x y (n - 1) ≠ -1) :
    X0_seenFrom (nI h) (nI n) cells pulls holeX holeY i1 i3 i4 = some (nI (100 * seeP (Kx w h n cells pull hx hy x y) n + (Kx w h n cells pull hx hy x y (seeP (Kx w h n cells pull hx hy x y) n)).toNatClampNeg)) := by
  unfold X0_seenFrom
  refine (q_b1 (q_crossedKind i1 0 i3 i4 e1 rfl e3 e4 hk hX hY lx ly lw lh h0 hn xx yy (hpl 0 h0).1 (hpl 0 h0).2)).trans ?_
  exact q_seenLoop i1 i3 i4 e1 e3 e4 hk hX hY lx ly lw lh hn xx yy hpl hK hback FU (n - 1) 0 (by unfold FU; omega) (by omega)
