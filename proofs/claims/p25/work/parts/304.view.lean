/-! PHASE 2: the class's view -/
theorem q_kindsL {counts : Nat → Int32} {k : Nat} {i : Int32} (hi : i = nI k) (hk : k < 4) {C : Nat → Nat} (hC : ∀ q, q < 26 → counts (k * 26 + q) = nI (C q) ∧ C q < 1000) : ∀ n q c : Nat, 26 - q < n → q ≤ 26 → c = cntN (fun q => decide (0 < C q)) q → X5_differentKinds_L4 counts i n (nI c) (nI q) = some (nI (cntN (fun q => decide (0 < C q)) 26))
  | 0, q, c, h, _, _ => absurd h (Nat.not_lt_zero _)
  | n + 1, q, c, h, hq, hc => by
    rw [X5_differentKinds_L4]
    by_cases e : q = 26
    · subst e
      exact (if_pos (show nI 26 ≤ nI 26 from nI_le (Nat.le_refl _) (by omega))).trans (by rw [hc])
    · refine (if_neg (show ¬ nI 26 ≤ nI q from nI_ge (show q < 26 by omega) (by omega))).trans ?_
      refine (q_ld counts (k * 26 + q) _ (by rw [hi, q_lit, pk_mul, nI_add]) (by omega) (by omega)).trans ?_
      obtain ⟨h1, h2⟩ := hC q (by omega)
      rw [h1]
      have hs : cntN (fun q => decide (0 < C q)) (q + 1) = cntN (fun q => decide (0 < C q)) q + (if 0 < C q then 1 else 0) := by
        show _ + (if decide (0 < C q) = true then 1 else 0) = _
        by_cases z : 0 < C q <;> simp [z]
      by_cases z : 0 < C q
      · refine (if_neg (show ¬ nI (C q) ≤ nI 0 from nI_ge z (by omega))).trans ?_
        show X5_differentKinds_L4 counts i n (nI c + 1) (nI q + 1) = _
        rw [nI_1, nI_1]
        exact q_kindsL hi hk hC n (q + 1) (c + 1) (by omega) (by omega) (by rw [hs, if_pos z, hc])
      · refine (if_pos (show nI (C q) ≤ nI 0 from nI_le (by omega) (by omega))).trans ?_
        show X5_differentKinds_L4 counts i n (nI c) (nI q + 1) = _
        rw [nI_1]
        exact q_kindsL hi hk hC n (q + 1) c (by omega) (by omega) (by rw [hs, if_neg z, hc]; rfl)
theorem q_differentKinds {counts : Nat → Int32} {k : Nat} {i : Int32} (hi : i = nI k) (hk : k < 4) {C : Nat → Nat} (hC : ∀ q, q < 26 → counts (k * 26 + q) = nI (C q) ∧ C q < 1000) : X5_differentKinds counts i = some (nI (cntN (fun q => decide (0 < C q)) 26)) := by
  unfold X5_differentKinds
  exact q_kindsL hi hk hC FU 0 0 (by unfold FU; omega) (by omega) rfl
/-- a count is above 0 if one is so -/
theorem cntN_any (p : Nat → Bool) : ∀ n : Nat, decide (0 < cntN p n) = anyN p n
  | 0 => rfl
  | n + 1 => by
    have h := cntN_any p n
    show decide (0 < cntN p n + (if p n then 1 else 0)) = (anyN p n || p n)
    rw [← h]
    by_cases z : p n = true
    · rw [z]; simp
    · rw [show p n = false by simpa using z]; simp
theorem q_ex {α : Type} {A B : Option α} {P : α → Prop} (h : A = B) (k : ∃ r, B = some r ∧ P r) : ∃ r, A = some r ∧ P r := by rw [h]; exact k
theorem q_rem {a d : Nat} {x y : Int32} (hx : x = nI a) (hy : y = nI d) (ha : a < 2 ^ 31) (h0 : 0 < d) (hd : d < 2 ^ 31) : x - x / y * y = nI (a % d) := by rw [hx, hy, pk_rem ha h0 hd]
/-- what the rows hold when the first T targets through the hole k have been looked at -/
def VInv (w h k : Nat) (sp sk : Nat → Nat) (seen0 counts0 : Nat → Int32) (T : Nat) (seen counts : Nat → Int32) : Prop :=
  (∀ q, q < 26 → counts (k * 26 + q) = nI (cntN (fun t => decide (sk t = q)) T)) ∧ (∀ m, (m < k * 26 ∨ k * 26 + 26 ≤ m) → counts m = counts0 m) ∧
  (∀ y, y < h → ∀ x, x < w → y * w + x < T → seen (k * 96 + y * 12 + x) = nI (100 * sp (y * w + x) + sk (y * w + x))) ∧ (∀ m, (m < k * 96 ∨ k * 96 + 96 ≤ m) → seen m = seen0 m)
theorem VInv_step {w h k : Nat} {sp sk : Nat → Nat} {seen0 counts0 seen counts : Nat → Int32} (hw : w ≤ 12) (hh : h ≤ 8) {x y : Nat} (hx : x < w) (hy : y < h) (hs : sk (y * w + x) < 26) (I : VInv w h k sp sk seen0 counts0 (y * w + x) seen counts) :
    VInv w h k sp sk seen0 counts0 (y * w + x + 1) (upd seen (k * 96 + y * 12 + x) (nI (100 * sp (y * w + x) + sk (y * w + x)))) (upd counts (k * 26 + sk (y * w + x)) (counts (k * 26 + sk (y * w + x)) + 1)) := by
  obtain ⟨i1, i2, i3, i4⟩ := I
  refine ⟨fun q hq => ?_, fun m hm => ?_, fun y' hy' x' hx' ht => ?_, fun m hm => ?_⟩
  · show _ = nI (cntN (fun t => decide (sk t = q)) (y * w + x) + (if decide (sk (y * w + x) = q) = true then 1 else 0))
    by_cases e : sk (y * w + x) = q
    · rw [← e, pk_us, i1 _ hs, nI_1]; simp
    · rw [pk_un (by omega), i1 q hq]; simp [e]
  · rw [pk_un (by omega), i2 m hm]
  · by_cases e : y' = y ∧ x' = x
    · rw [e.1, e.2, pk_us]
    · have hne : k * 96 + y' * 12 + x' ≠ k * 96 + y * 12 + x := by omega
      rw [pk_un hne]
      refine i3 y' hy' x' hx' ?_
      have hne2 : y' * w + x' ≠ y * w + x := by
        intro z
        rcases Nat.lt_trichotomy y' y with g | g | g
        · have : (y' + 1) * w ≤ y * w := Nat.mul_le_mul_right w g
          rw [Nat.succ_mul] at this
          omega
        · subst g; exact e ⟨rfl, by omega⟩
        · have : (y + 1) * w ≤ y' * w := Nat.mul_le_mul_right w g
          rw [Nat.succ_mul] at this
          omega
      omega
  · rw [pk_un (by omega), i4 m hm]
theorem q_look17 {w h n k : Nat} {cells pulls holeX holeY depths : Nat → Int32} {i : Int32} {sp sk : Nat → Nat} {seen0 counts0 : Nat → Int32} (hi : i = nI k) (hk : k < 4) (hw : w ≤ 12) (hh : h ≤ 8)
    (hsee : ∀ y, y < h → ∀ x, x < w → X0_seenFrom (nI h) (nI n) cells pulls holeX holeY i (nI x) (nI y) = some (nI (100 * sp (y * w + x) + sk (y * w + x))) ∧ sp (y * w + x) < 5 ∧ sk (y * w + x) < 26)
    {kont : Int32 → Int32 → (Nat → Int32) → (Nat → Int32) → Option ((Nat → Int32) × (Nat → Int32) × (Nat → Int32))} {Post : (Nat → Int32) × (Nat → Int32) × (Nat → Int32) → Prop} {y : Nat} (hy : y < h)
    (hkont : ∀ seen counts, VInv w h k sp sk seen0 counts0 ((y + 1) * w) seen counts → ∃ r, kont (nI (sumN (fun t => sp t + 1) ((y + 1) * w))) (nI (y + 1)) seen counts = some r ∧ Post r) :
    ∀ (fuel x : Nat) (seen counts : Nat → Int32), w - x < fuel → x ≤ w → VInv w h k sp sk seen0 counts0 (y * w + x) seen counts → ∃ r, X5_look_L17 depths (nI w) (nI h) (nI n) cells pulls holeX holeY i kont fuel (nI (sumN (fun t => sp t + 1) (y * w + x))) (nI y) (nI x) seen counts = some r ∧ Post r
  | 0, x, seen, counts, h0, _, _ => absurd h0 (Nat.not_lt_zero _)
  | fuel + 1, x, seen, counts, h0, hx, I => by
    rw [X5_look_L17]
    by_cases e : x = w
    · subst e
      refine q_ex (if_pos (nI_le (Nat.le_refl _) (by omega))) ?_
      refine q_ex (q_nm _ _) ?_
      rw [nI_1, ← Nat.succ_mul]
      exact hkont seen counts (by rw [Nat.succ_mul]; exact I)
    · have hx' : x < w := by omega
      obtain ⟨hs, hp, hq⟩ := hsee y hy x hx'
      have hmul : y * w ≤ 8 * 12 := Nat.mul_le_mul (by omega) hw
      refine q_ex (if_neg (nI_ge hx' (by omega))) ?_
      refine q_ex (q_b1 hs) ?_
      refine q_ex (q_b1 (show X5_target i (nI x) (nI y) = some (nI (k * 96 + y * 12 + x)) from by unfold X5_target; rw [hi, q_lit, q_lit, pk_mul, pk_mul, nI_add, nI_add])) ?_
      refine q_ex (q_st _ (k * 96 + y * 12 + x) _ rfl (by omega) (by omega)) ?_
      refine q_ex (q_nm _ _) ?_
      have hrm : nI (100 * sp (y * w + x) + sk (y * w + x)) - nI (100 * sp (y * w + x) + sk (y * w + x)) / (100 : Int32) * (100 : Int32) = nI (sk (y * w + x)) := (q_rem (a := 100 * sp (y * w + x) + sk (y * w + x)) (d := 100) rfl rfl (by omega) (by omega) (by omega)).trans (by rw [show (100 * sp (y * w + x) + sk (y * w + x)) % 100 = sk (y * w + x) by omega])
      rw [hrm]
      have hix : i * (26 : Int32) + nI (sk (y * w + x)) = nI (k * 26 + sk (y * w + x)) := by rw [hi, q_lit, pk_mul, nI_add]
      refine q_ex (q_ld counts (k * 26 + sk (y * w + x)) _ hix (by omega) (by omega)) ?_
      refine q_ex (q_st _ (k * 26 + sk (y * w + x)) _ hix (by omega) (by omega)) ?_
      refine q_ex (q_nm _ _) ?_
      refine q_ex (q_nm _ _) ?_
      have hdv : nI (100 * sp (y * w + x) + sk (y * w + x)) / (100 : Int32) = nI (sp (y * w + x)) := (pk_div (a := 100 * sp (y * w + x) + sk (y * w + x)) (d := 100) (by omega) (by omega) (by omega)).trans (by rw [show (100 * sp (y * w + x) + sk (y * w + x)) / 100 = sp (y * w + x) by omega])
      rw [hdv, hix, nI_clamp (show k * 96 + y * 12 + x < 2 ^ 31 by omega), nI_clamp (show k * 26 + sk (y * w + x) < 2 ^ 31 by omega), nI_1, nI_1, nI_add]
      exact q_look17 hi hk hw hh hsee hy hkont fuel (x + 1) _ _ (by omega) (by omega) (VInv_step hw hh hx' hy hq I)
theorem q_look5 {w h n k : Nat} {cells pulls holeX holeY depths : Nat → Int32} {i : Int32} {sp sk : Nat → Nat} {seen0 counts0 : Nat → Int32} (hi : i = nI k) (hk : k < 4) (hw0 : 0 < w) (hw : w ≤ 12) (hh0 : 0 < h) (hh : h ≤ 8)
    (hsee : ∀ y, y < h → ∀ x, x < w → X0_seenFrom (nI h) (nI n) cells pulls holeX holeY i (nI x) (nI y) = some (nI (100 * sp (y * w + x) + sk (y * w + x))) ∧ sp (y * w + x) < 5 ∧ sk (y * w + x) < 26) (hsp : sumN (fun t => sp t + 1) (h * w) < 1000) :
    ∀ (fuel y : Nat) (seen counts : Nat → Int32), h - y < fuel → y ≤ h → VInv w h k sp sk seen0 counts0 (y * w) seen counts → ∃ r, X5_look_L5 depths (nI w) (nI h) (nI n) cells pulls holeX holeY i fuel (nI (sumN (fun t => sp t + 1) (y * w))) (nI y) seen counts = some r ∧ (VInv w h k sp sk seen0 counts0 (h * w) r.1 r.2.1 ∧ r.2.2 = upd depths k (nI (sumN (fun t => sp t + 1) (h * w) / (w * h))))
  | 0, y, seen, counts, h0, _, _ => absurd h0 (Nat.not_lt_zero _)
  | fuel + 1, y, seen, counts, h0, hy, I => by
    rw [X5_look_L5]
    by_cases e : y = h
    · subst e
      have hm : w * y ≤ 12 * 8 := Nat.mul_le_mul hw hh
      have hm0 : 0 < w * y := Nat.mul_pos hw0 hh0
      refine q_ex (if_pos (nI_le (Nat.le_refl _) (by omega))) ?_
      have hq : X6_quotient (nI (sumN (fun t => sp t + 1) (y * w))).toInt64 (nI w * nI y).toInt64 = some (lN (sumN (fun t => sp t + 1) (y * w) / (w * y))) := by
        rw [pk_mul, nI_l (by omega), nI_l (by omega)]
        unfold X6_quotient
        have hne : ¬ lN (w * y) = 0 := fun z => by
          have := (lN_eq (a := w * y) (b := 0) (by omega) (by omega)).mp z
          omega
        have hc : ¬ lg_cmp (lN (w * y)) 0 = 0 := by
          have : (0 : Int64) < lN (w * y) := (lN_lt (a := 0) (by omega) (by omega)).mpr hm0
          unfold lg_cmp
          rw [if_pos this]
          decide
        refine (if_neg hc).trans ((q_ck hne _).trans ?_)
        rw [pk_lDiv (by omega) hm0 (by omega)]
      refine q_ex (q_b1 hq) ?_
      refine q_ex (q_st _ k _ hi hk (by omega)) ?_
      exact ⟨_, rfl, I, by show upd depths i.toNatClampNeg _ = _; rw [hi, nI_clamp (by omega), lN_i]⟩
    · refine q_ex (if_neg (nI_ge (show y < h by omega) (by omega))) ?_
      exact q_look17 hi hk hw hh hsee (show y < h by omega) (fun seen counts I => q_look5 hi hk hw0 hw hh0 hh hsee hsp fuel (y + 1) seen counts (by omega) (by omega) I) FU 0 seen counts (by unfold FU; omega) (by omega) I
theorem q_look {w h n k : Nat} {cells pulls holeX holeY depths : Nat → Int32} {i : Int32} {sp sk : Nat → Nat} {seen counts : Nat → Int32} (hi : i = nI k) (hk : k < 4) (hw0 : 0 < w) (hw : w ≤ 12) (hh0 : 0 < h) (hh : h ≤ 8)
    (hsee : ∀ y, y < h → ∀ x, x < w → X0_seenFrom (nI h) (nI n) cells pulls holeX holeY i (nI x) (nI y) = some (nI (100 * sp (y * w + x) + sk (y * w + x))) ∧ sp (y * w + x) < 5 ∧ sk (y * w + x) < 26) (hsp : sumN (fun t => sp t + 1) (h * w) < 1000) (hc0 : ∀ q, q < 26 → counts (k * 26 + q) = 0) :
    ∃ r, X5_look seen counts depths (nI w) (nI h) (nI n) cells pulls holeX holeY i = some r ∧ (VInv w h k sp sk seen counts (h * w) r.1 r.2.1 ∧ r.2.2 = upd depths k (nI (sumN (fun t => sp t + 1) (h * w) / (w * h)))) := by
  unfold X5_look
  have I0 : VInv w h k sp sk seen counts (0 * w) seen counts := ⟨fun q hq => by rw [Nat.zero_mul]; exact hc0 q hq, fun _ _ => rfl, fun y _ x _ ht => by rw [Nat.zero_mul] at ht; exact absurd ht (Nat.not_lt_zero _), fun _ _ => rfl⟩
  have h1 := q_look5 (depths := depths) hi hk hw0 hw hh0 hh hsee hsp FU 0 seen counts (by unfold FU; omega) (Nat.zero_le _) I0
  rw [Nat.zero_mul] at h1
  exact h1
