/-! NUMBERS: the law's own show: what is shown through a hole -/
section XB
variable {G : LG} {w h n HN V LL rc : Nat} {pull hx hy : Nat → Nat} {cells : Nat → Int32} {ti : Int32} {fa : Nat → Int32}
/-- the kinds seen so far: the columns below X, and of the column X the rows below Y -/
def vsB (w h : Nat) (sk : Nat → Nat) (X Y j : Nat) : Bool := anyN (fun x => anyN (fun y => decide (sk (y * w + x) = j)) h) X || anyN (fun y => decide (sk (y * w + X) = j)) Y
theorem vsB_col (w h : Nat) (sk : Nat → Nat) (X j : Nat) : vsB w h sk X h j = vsB w h sk (X + 1) 0 j := by
  unfold vsB
  show _ = ((anyN (fun x => anyN (fun y => decide (sk (y * w + x) = j)) h) X || anyN (fun y => decide (sk (y * w + X) = j)) h) || false)
  rw [Bool.or_false]
theorem vsB_row (w h : Nat) (sk : Nat → Nat) (X Y j : Nat) : vsB w h sk X (Y + 1) j = (vsB w h sk X Y j || decide (sk (Y * w + X) = j)) := by
  unfold vsB
  rw [anyN_succ, Bool.or_assoc]
theorem vsB_all (w h : Nat) (sk : Nat → Nat) (hw : 0 < w) (j : Nat) : vsB w h sk w 0 j = anyN (fun t => decide (sk t = j)) (w * h) := by
  unfold vsB
  show (_ || false) = _
  rw [Bool.or_false, Bool.eq_iff_iff]
  constructor
  · intro q
    obtain ⟨x, hx, q⟩ := anyN_elim _ q
    obtain ⟨y, hy, q⟩ := anyN_elim _ q
    exact anyN_intro _ (tgt_lt hx hy) q
  · intro q
    obtain ⟨t, ht, q⟩ := anyN_elim _ q
    refine anyN_intro w (Nat.mod_lt t hw) (anyN_intro h (Nat.div_lt_of_lt_mul ht) ?_)
    rw [Nat.mul_comm, Nat.div_add_mod]; exact q
/-- the row isSeen -/
def TAv (vis : Nat → Bool) (ta : Nat → Int32) : Prop := ∀ j, j < 26 → ta j = nI (if vis j = true then 1 else 0)
theorem x_seenL {p2 : Int32} {c d : Nat} {vis : Nat → Bool} {ta : Nat → Int32} (hT : TAv vis ta) : ∀ fuel i m : Nat, 26 - i < fuel → i ≤ 26 → m = cntN vis i → X10_shown_L111 G (nI 0) p2 fuel (nI c) (nI d) (nI m) (nI 26) (nI i) ta = X10_shown_L111 G (nI 0) p2 1 (nI c) (nI d) (nI (cntN vis 26)) (nI 26) (nI 26) ta := by
  intro fuel
  induction fuel with
  | zero => intro i m h1; omega
  | succ fuel ih =>
    intro i m h1 h2 hm
    by_cases ci : i = 26
    · subst ci hm
      rw [X10_shown_L111, X10_shown_L111, if_pos (Int32.le_refl _), if_pos (Int32.le_refl _)]
    · rw [X10_shown_L111, if_neg (nI_ge (by omega) (by decide)), s_ld (by omega) (by decide), hT i (by omega)]
      unfold X10_shown_J137
      by_cases hv : vis i = true
      · rw [if_pos hv, if_neg (show ¬ nI 1 = (0 : Int32) by decide), s_nm, s_nm, show (1 : Int32) = nI 1 from rfl, nI_add, nI_add]
        exact ih (i + 1) (m + 1) (by omega) (by omega) (by rw [hm, cntN_t hv])
      · have hf : vis i = false := by cases e : vis i <;> simp_all
        rw [if_neg hv, if_pos (show nI 0 = (0 : Int32) from rfl), s_nm, s_nm, show (1 : Int32) = nI 1 from rfl, show (0 : Int32) = nI 0 from rfl, nI_add, nI_add]
        exact ih (i + 1) m (by omega) (by omega) (by rw [hm, cntN_f hf])
/-- what shown answers of the sums -/
def shAns (p2 : Int32) (c d m N : Nat) : Option Int32 := if p2 < 0 then (if p2 = -1 then some (nI m) else some (nI (d / N))) else some (nI c)
theorem x_seenE {p2 : Int32} {c d : Nat} {vis : Nat → Bool} {ta : Nat → Int32} (hT : TAv vis ta) (z0 : shZ G 0 = w) (z1 : shZ G 1 = h) (hd : d < 2 ^ 31) (hN : 0 < w * h) (hN2 : w * h < 2 ^ 31) (k : Int32) : X10_shown_L111 G k p2 FU (nI c) (nI d) (nI 0) (nI 26) (nI 0) ta = shAns p2 c d (cntN vis 26) (w * h) := by
  have e1 : X10_shown_L111 G k p2 = X10_shown_L111 G (nI 0) p2 := by
    funext f
    induction f with
    | zero => rfl
    | succ f ih =>
      funext a b c d e g
      rw [X10_shown_L111, X10_shown_L111, ih]
      rfl
  rw [e1, x_seenL hT FU 0 0 (by unfold FU; omega) (by decide) rfl, X10_shown_L111, if_pos (Int32.le_refl _), z0, z1, pk_mul]
  unfold shAns
  by_cases c1 : p2 < 0
  · rw [if_pos c1, if_pos c1]
    by_cases c2 : p2 = -1
    · rw [if_pos c2, if_pos c2]
    · rw [if_neg c2, if_neg c2, q_ck (nI_ne0 hN hN2), pk_div hd hN hN2]
  · rw [if_neg c1, if_neg c1]
/-- the kind that is counted: q, or none -/
def knd (p2 : Int32) (sk : Nat) : Bool := decide (nI sk = p2)
theorem x_shownR (N : NG G w h n HN V LL rc pull hx hy cells ti fa) (S : SBox w h n pull HN hx hy) (B : KBox w h n cells pull) {k x : Nat} (hk : k < HN) (xx : x < w) (p2 : Int32) (kL14 : Int32 → Int32 → Int32 → (Nat → Int32) → Option Int32) : ∀ (fuel y c d : Nat) (ta : Nat → Int32), h - y < fuel → y ≤ h → TAv (vsB w h (skB w h n cells pull (hx k) (hy k)) x y) ta →
    ∃ ta2, X10_shown_L26 G (nI k) p2 kL14 fuel (nI (c + cntN (fun y => knd p2 (skB w h n cells pull (hx k) (hy k) (y * w + x))) y)) (nI (d + sumN (fun y => spB w h n cells pull (hx k) (hy k) (y * w + x) + 1) y)) (nI x) (nI y) ta = kL14 (nI (c + cntN (fun y => knd p2 (skB w h n cells pull (hx k) (hy k) (y * w + x))) h)) (nI (d + sumN (fun y => spB w h n cells pull (hx k) (hy k) (y * w + x) + 1) h)) (nI (x + 1)) ta2 ∧ TAv (vsB w h (skB w h n cells pull (hx k) (hy k)) (x + 1) 0) ta2 := by
  intro fuel
  induction fuel with
  | zero => intro y c d ta h1; omega
  | succ fuel ih =>
    intro y c d ta h1 h2 hT
    have z1 : shZ G 1 = h := N.1.2.1
    have hh := S.2.1.2
    rw [X10_shown_L26, z1]
    by_cases cy : y = h
    · subst cy
      rw [if_pos (Int32.le_refl _), s_nm, show (1 : Int32) = nI 1 from rfl, nI_add]
      exact ⟨ta, rfl, fun j hj => by rw [hT j hj, vsB_col]⟩
    · have yy : y < h := by omega
      obtain ⟨b1, b2⟩ := x_seen S B hk xx yy
      have hn5 := S.2.2.1.2
      obtain ⟨sp, esp⟩ : ∃ z, z = spB w h n cells pull (hx k) (hy k) (y * w + x) := ⟨_, rfl⟩
      obtain ⟨sk, esk⟩ : ∃ z, z = skB w h n cells pull (hx k) (hy k) (y * w + x) := ⟨_, rfl⟩
      rw [if_neg (nI_ge yy (by omega)), x_sees N S B hk xx yy, q_bn1, s_nm, ← esp, ← esk]
      rw [← esp] at b1
      rw [← esk] at b2
      have e20 : nI (100 * sp + sk) - nI (100 * sp + sk) / (100 : Int32) * (100 : Int32) = nI sk := by
        rw [show (100 : Int32) = nI 100 from rfl, pk_rem (by omega) (by decide) (by decide)]; congr 1; omega
      have ed : nI (100 * sp + sk) / (100 : Int32) = nI sp := by
        rw [show (100 : Int32) = nI 100 from rfl, pk_div (by omega) (by decide) (by decide)]; congr 1; omega
      have hT2 : TAv (vsB w h (skB w h n cells pull (hx k) (hy k)) x (y + 1)) (upd ta sk (vp_nar .boolean (1 : Int32))) := by
        intro j hj
        rw [vsB_row, ← esk]
        by_cases e : j = sk
        · rw [e, pk_us, decide_eq_true rfl, Bool.or_true]; rfl
        · rw [pk_un e, hT j hj, decide_eq_false (fun z => e z.symm), Bool.or_false]
      have e3 : d + sumN (fun y => spB w h n cells pull (hx k) (hy k) (y * w + x) + 1) (y + 1) = d + sumN (fun y => spB w h n cells pull (hx k) (hy k) (y * w + x) + 1) y + (sp + 1) := by
        show d + (sumN _ y + (spB w h n cells pull (hx k) (hy k) (y * w + x) + 1)) = _
        rw [← esp]; omega
      have body : ∀ a : Nat, a = (if knd p2 sk = true then 1 else 0) → ∃ ta2, X10_shown_J61 G (nI k) p2 kL14 (fun z0 z1 z2 z3 z4 => X10_shown_L26 G (nI k) p2 kL14 fuel z0 z1 z2 z3 z4) (nI (d + sumN (fun y => spB w h n cells pull (hx k) (hy k) (y * w + x) + 1) y)) (nI x) (nI y) (nI (100 * sp + sk)) (nI (c + cntN (fun y => knd p2 (skB w h n cells pull (hx k) (hy k) (y * w + x))) y)) (nI a) ta = kL14 (nI (c + cntN (fun y => knd p2 (skB w h n cells pull (hx k) (hy k) (y * w + x))) h)) (nI (d + sumN (fun y => spB w h n cells pull (hx k) (hy k) (y * w + x) + 1) h)) (nI (x + 1)) ta2 ∧ TAv (vsB w h (skB w h n cells pull (hx k) (hy k)) (x + 1) 0) ta2 := by
        intro a ha
        unfold X10_shown_J61
        have e4 : c + cntN (fun y => knd p2 (skB w h n cells pull (hx k) (hy k) (y * w + x))) (y + 1) = c + cntN (fun y => knd p2 (skB w h n cells pull (hx k) (hy k) (y * w + x))) y + a := by
          rw [cntN_succ, ha, ← esk]; omega
        rw [s_nm, s_nm, s_nm, e20, ed, show (1 : Int32) = nI 1 from rfl, nI_add, nI_add, nI_add, nI_clamp (by omega), s_st (by omega) (by decide), s_nm, nI_add, ← e3, ← e4]
        exact ih (y + 1) c d _ (by omega) (by omega) hT2
      rw [e20]
      by_cases ck : nI sk = p2
      · rw [if_pos ck]
        exact body 1 (by unfold knd; rw [decide_eq_true ck]; rfl)
      · rw [if_neg ck]
        exact body 0 (by unfold knd; rw [decide_eq_false ck]; rfl)
theorem x_shownC (N : NG G w h n HN V LL rc pull hx hy cells ti fa) (S : SBox w h n pull HN hx hy) (B : KBox w h n cells pull) {k : Nat} (hk : k < HN) (p2 : Int32) : ∀ (fuel x : Nat) (ta : Nat → Int32), w - x < fuel → x ≤ w → TAv (vsB w h (skB w h n cells pull (hx k) (hy k)) x 0) ta →
    X10_shown_L14 G (nI k) p2 fuel (nI (sumN (fun x => cntN (fun y => knd p2 (skB w h n cells pull (hx k) (hy k) (y * w + x))) h) x)) (nI (sumN (fun x => sumN (fun y => spB w h n cells pull (hx k) (hy k) (y * w + x) + 1) h) x)) (nI x) ta = shAns p2 (cntN (fun t => knd p2 (skB w h n cells pull (hx k) (hy k) t)) (w * h)) (sumN (fun t => spB w h n cells pull (hx k) (hy k) t + 1) (w * h)) (kdB w h (skB w h n cells pull (hx k) (hy k))) (w * h) := by
  intro fuel
  induction fuel with
  | zero => intro x ta h1; omega
  | succ fuel ih =>
    intro x ta h1 h2 hT
    have z0 : shZ G 0 = w := N.1.1
    have z1 : shZ G 1 = h := N.1.2.1
    obtain ⟨⟨w0, w12⟩, ⟨h0, h8⟩, ⟨n0, n5⟩, -, -, -⟩ := id S
    have hm : w * h ≤ 12 * 8 := Nat.mul_le_mul w12 h8
    have hp : 0 < w * h := Nat.mul_pos w0 h0
    rw [X10_shown_L14, z0]
    by_cases cx : x = w
    · subst cx
      have hd : sumN (fun t => spB x h n cells pull (hx k) (hy k) t + 1) (x * h) ≤ (x * h) * 5 := sumN_le _ (fun t ht => by
        have := (x_seen (k := k) S B hk (Nat.mod_lt t w0) (Nat.div_lt_of_lt_mul ht)).1
        rw [Nat.mul_comm (t / x), Nat.div_add_mod] at this
        omega)
      rw [if_pos (Int32.le_refl _), cntN_cols (fun t => knd p2 (skB x h n cells pull (hx k) (hy k) t)), sumN_cols (fun t => spB x h n cells pull (hx k) (hy k) t + 1)]
      rw [show (0 : Int32) = nI 0 from rfl, show (26 : Int32) = nI 26 from rfl, x_seenE (w := x) (h := h) hT z0 z1 (by omega) hp (by omega)]
      have ek : cntN (vsB x h (skB x h n cells pull (hx k) (hy k)) x 0) 26 = kdB x h (skB x h n cells pull (hx k) (hy k)) := cntN_congr 26 (fun j _ => (vsB_all x h _ w0 j))
      rw [ek]
    · have xx : x < w := by omega
      rw [if_neg (nI_ge xx (by omega)), show (0 : Int32) = nI 0 from rfl]
      obtain ⟨ta2, e1, hT2⟩ := x_shownR N S B hk xx p2 (fun z0 z1 z2 z3 => X10_shown_L14 G (nI k) p2 fuel z0 z1 z2 z3) FU 0 (sumN (fun x => cntN (fun y => knd p2 (skB w h n cells pull (hx k) (hy k) (y * w + x))) h) x) (sumN (fun x => sumN (fun y => spB w h n cells pull (hx k) (hy k) (y * w + x) + 1) h) x) ta (by unfold FU; omega) (Nat.zero_le _) hT
      exact e1.trans (ih (x + 1) ta2 (by omega) (by omega) hT2)
theorem x_shownA (N : NG G w h n HN V LL rc pull hx hy cells ti fa) (S : SBox w h n pull HN hx hy) (B : KBox w h n cells pull) {k : Nat} (hk : k < HN) (p2 : Int32) : X10_shown G (nI k) p2 = shAns p2 (cntN (fun t => knd p2 (skB w h n cells pull (hx k) (hy k) t)) (w * h)) (sumN (fun t => spB w h n cells pull (hx k) (hy k) t + 1) (w * h)) (kdB w h (skB w h n cells pull (hx k) (hy k))) (w * h) :=
  x_shownC N S B hk p2 FU 0 (fun _ => 0) (by have := S.1.2; unfold FU; omega) (Nat.zero_le _) (fun j _ => rfl)
theorem x_shownQ (N : NG G w h n HN V LL rc pull hx hy cells ti fa) (S : SBox w h n pull HN hx hy) (B : KBox w h n cells pull) {k q : Nat} (hk : k < HN) (hq : q < 26) : X10_shown G (nI k) (nI q) = some (nI (cnB w h (skB w h n cells pull (hx k) (hy k)) q)) := by
  rw [x_shownA N S B hk]
  unfold shAns
  rw [if_neg (nI_pos (by omega))]
  congr 2
  refine cntN_congr _ (fun t ht => ?_)
  have hs : skB w h n cells pull (hx k) (hy k) t < 26 := by
    have := (x_seen (k := k) S B hk (Nat.mod_lt t S.1.1) (Nat.div_lt_of_lt_mul ht)).2
    rw [Nat.mul_comm (t / w), Nat.div_add_mod] at this
    exact this
  unfold knd
  exact decide_eq_decide.mpr (nI_eq (by omega) (by omega))
theorem x_shownK (N : NG G w h n HN V LL rc pull hx hy cells ti fa) (S : SBox w h n pull HN hx hy) (B : KBox w h n cells pull) {k : Nat} (hk : k < HN) : X10_shown G (nI k) (-1) = some (nI (kdB w h (skB w h n cells pull (hx k) (hy k)))) := by
  rw [x_shownA N S B hk]
  unfold shAns
  rw [if_pos (by decide), if_pos rfl]
theorem x_shownD (N : NG G w h n HN V LL rc pull hx hy cells ti fa) (S : SBox w h n pull HN hx hy) (B : KBox w h n cells pull) {k : Nat} (hk : k < HN) : X10_shown G (nI k) (-2) = some (nI (dpB w h (spB w h n cells pull (hx k) (hy k)))) := by
  rw [x_shownA N S B hk]
  unfold shAns
  rw [if_pos (by decide), if_neg (by decide)]
  rfl
end XB
