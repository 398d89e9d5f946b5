/-! NUMBERS: the law's own show: what is told of a plane, a hole, a guest -/
section XD
variable {G : LG} {w h n HN V LL rc : Nat} {pull hx hy : Nat → Nat} {cells : Nat → Int32} {ti : Int32} {fa : Nat → Int32}
/-- does the look through the hole k at the target t see the plane p -/
def sePB (w h n : Nat) (cells : Nat → Int32) (pull hx hy : Nat → Nat) (p k t : Nat) : Bool := decide (spB w h n cells pull (hx k) (hy k) t = p)
theorem x_ofpK (N : NG G w h n HN V LL rc pull hx hy cells ti fa) (S : SBox w h n pull HN hx hy) (B : KBox w h n cells pull) {p x y : Nat} (hp : p < n) (xx : x < w) (yy : y < h) (p2 : Int32) (kL8 : Int32 → Int32 → Int32 → Option Int32) (kL20 : Int32 → Int32 → Int32 → Int32 → Option Int32) (l3 : Int32) (b : Nat) : ∀ (fuel k : Nat), HN - k < fuel → k ≤ HN →
    X10_ofPlane_L49 G (nI p) p2 kL8 kL20 fuel l3 (nI (b + cntN (fun k => sePB w h n cells pull hx hy p k (y * w + x)) k)) (nI x) (nI y) (nI k) = kL20 l3 (nI (b + cntN (fun k => sePB w h n cells pull hx hy p k (y * w + x)) HN)) (nI x) (nI (y + 1)) := by
  intro fuel
  induction fuel with
  | zero => intro k h1; omega
  | succ fuel ih =>
    intro k h1 h2
    have s4 := S.2.2.2.1
    have n5 := S.2.2.1.2
    rw [X10_ofPlane_L49, N.1.2.2.2.1]
    by_cases ck : k = HN
    · rw [ck, if_pos (Int32.le_refl _), s_nm, show (1 : Int32) = nI 1 from rfl, nI_add]
    · have hk : k < HN := by omega
      obtain ⟨b1, b2⟩ := x_seen S B hk xx yy
      rw [if_neg (nI_ge hk (by omega)), x_sees N S B hk xx yy, q_bn1]
      obtain ⟨sp, esp⟩ : ∃ z, z = spB w h n cells pull (hx k) (hy k) (y * w + x) := ⟨_, rfl⟩
      obtain ⟨sk, esk⟩ : ∃ z, z = skB w h n cells pull (hx k) (hy k) (y * w + x) := ⟨_, rfl⟩
      have eP : sePB w h n cells pull hx hy p k (y * w + x) = decide (sp = p) := by rw [esp]; rfl
      rw [← esp, ← esk]
      rw [← esp] at b1
      rw [← esk] at b2
      rw [show nI (100 * sp + sk) / (100 : Int32) = nI sp from by rw [show (100 : Int32) = nI 100 from rfl, pk_div (by omega) (by decide) (by decide)]; congr 1; omega]
      by_cases cp : sp = p
      · rw [if_pos (by rw [cp]), s_nm]
        unfold X10_ofPlane_J79
        rw [s_nm, show (1 : Int32) = nI 1 from rfl, nI_add, nI_add]
        have e := ih (k + 1) (by omega) (by omega)
        rw [cntN_t (p := fun k => sePB w h n cells pull hx hy p k (y * w + x)) (n := k) (show sePB w h n cells pull hx hy p k (y * w + x) = true by rw [eP]; exact decide_eq_true cp)] at e
        exact e
      · rw [if_neg (fun z => cp ((nI_eq (by omega) (by omega)).mp z))]
        unfold X10_ofPlane_J79
        rw [s_nm, show (1 : Int32) = nI 1 from rfl, nI_add]
        have e := ih (k + 1) (by omega) (by omega)
        rw [cntN_f (p := fun k => sePB w h n cells pull hx hy p k (y * w + x)) (n := k) (show sePB w h n cells pull hx hy p k (y * w + x) = false by rw [eP]; exact decide_eq_false cp)] at e
        exact e
theorem stB_at {p x y : Nat} (xx : x < w) : stB w h cells pull p (y * w + x) = !decide (Kd h cells pull p x y = -nI 1) := by
  unfold stB; rw [tgt_x xx, tgt_y xx]
theorem x_ofpY (N : NG G w h n HN V LL rc pull hx hy cells ti fa) (S : SBox w h n pull HN hx hy) (B : KBox w h n cells pull) {p x : Nat} (hp : p < n) (xx : x < w) (p2 : Int32) (kL8 : Int32 → Int32 → Int32 → Option Int32) (a b : Nat) : ∀ (fuel y : Nat), h - y < fuel → y ≤ h →
    X10_ofPlane_L20 G (nI p) p2 kL8 fuel (nI (a + cntN (fun y => stB w h cells pull p (y * w + x)) y)) (nI (b + sumN (fun y => cntN (fun k => sePB w h n cells pull hx hy p k (y * w + x)) HN) y)) (nI x) (nI y) = kL8 (nI (a + cntN (fun y => stB w h cells pull p (y * w + x)) h)) (nI (b + sumN (fun y => cntN (fun k => sePB w h n cells pull hx hy p k (y * w + x)) HN) h)) (nI (x + 1)) := by
  intro fuel
  induction fuel with
  | zero => intro y h1; omega
  | succ fuel ih =>
    intro y h1 h2
    have h8 := S.2.1.2
    have s4 := S.2.2.2.1
    rw [X10_ofPlane_L20, N.1.2.1]
    by_cases cy : y = h
    · rw [cy, if_pos (Int32.le_refl _), s_nm, show (1 : Int32) = nI 1 from rfl, nI_add]
    · have yy : y < h := by omega
      rw [if_neg (nI_ge yy (by omega)), x_stands N S B hp xx yy, q_bn1]
      have e := ih (y + 1) (by omega) (by omega)
      have eb : b + sumN (fun y => cntN (fun k => sePB w h n cells pull hx hy p k (y * w + x)) HN) (y + 1) = b + sumN (fun y => cntN (fun k => sePB w h n cells pull hx hy p k (y * w + x)) HN) y + cntN (fun k => sePB w h n cells pull hx hy p k (y * w + x)) HN := (Nat.add_assoc _ _ _).symm
      rw [eb] at e
      rcases Kd_kind (y := y) B hp xx with ek | ⟨kk, hkk, ek⟩
      · rw [ek, chC_open, if_pos (show nI 46 = (46 : Int32) from rfl)]
        unfold X10_ofPlane_J46
        have e2 := x_ofpK N S B hp xx yy p2 kL8 (fun z0 z1 z2 z3 => X10_ofPlane_L20 G (nI p) p2 kL8 fuel z0 z1 z2 z3) (nI (a + cntN (fun y => stB w h cells pull p (y * w + x)) y)) (b + sumN (fun y => cntN (fun k => sePB w h n cells pull hx hy p k (y * w + x)) HN) y) FU 0 (by unfold FU; omega) (Nat.zero_le _)
        rw [cntN_f (p := fun y => stB w h cells pull p (y * w + x)) (n := y) (show stB w h cells pull p (y * w + x) = false by rw [stB_at xx, ek]; rfl)] at e
        exact e2.trans e
      · rw [ek, chC_kind hkk, if_neg (show ¬ nI (97 + kk) = (46 : Int32) from fun z => by have := (nI_eq (b := 46) (by omega) (by decide)).mp z; omega), s_nm, show (1 : Int32) = nI 1 from rfl, nI_add]
        unfold X10_ofPlane_J46
        have e2 := x_ofpK N S B hp xx yy p2 kL8 (fun z0 z1 z2 z3 => X10_ofPlane_L20 G (nI p) p2 kL8 fuel z0 z1 z2 z3) (nI (a + cntN (fun y => stB w h cells pull p (y * w + x)) y + 1)) (b + sumN (fun y => cntN (fun k => sePB w h n cells pull hx hy p k (y * w + x)) HN) y) FU 0 (by unfold FU; omega) (Nat.zero_le _)
        rw [cntN_t (p := fun y => stB w h cells pull p (y * w + x)) (n := y) (show stB w h cells pull p (y * w + x) = true by rw [stB_at xx, ek, decide_eq_false (show ¬ nI kk = -nI 1 from ne_m1 hkk)]; rfl)] at e
        exact e2.trans e
/-- what is told of a plane -/
def ofpV (w h n HN : Nat) (cells : Nat → Int32) (pull hx hy : Nat → Nat) (p j : Nat) : Int32 := match j with
  | 0 => nI (pull p)
  | 1 => nI (cntN (stB w h cells pull p) (w * h))
  | _ => nI (sumN (fun k => cntN (seB (fun k => spB w h n cells pull (hx k) (hy k)) p k) (w * h)) HN)
theorem x_ofpX (N : NG G w h n HN V LL rc pull hx hy cells ti fa) (S : SBox w h n pull HN hx hy) (B : KBox w h n cells pull) {p j : Nat} (hp : p < n) (hj : j < 3) : ∀ (fuel x : Nat), w - x < fuel → x ≤ w →
    X10_ofPlane_L8 G (nI p) (nI j) fuel (nI (sumN (fun x => cntN (fun y => stB w h cells pull p (y * w + x)) h) x)) (nI (sumN (fun x => sumN (fun y => cntN (fun k => sePB w h n cells pull hx hy p k (y * w + x)) HN) h) x)) (nI x) = some (ofpV w h n HN cells pull hx hy p j) := by
  intro fuel
  induction fuel with
  | zero => intro x h1; omega
  | succ fuel ih =>
    intro x h1 h2
    have w12 := S.1.2
    have h8 := S.2.1.2
    have n5 := S.2.2.1.2
    rw [X10_ofPlane_L8, N.1.1]
    by_cases cx : x = w
    · rw [cx, if_pos (Int32.le_refl _), cntN_cols (fun t => stB w h cells pull p t), sumN_cols (fun t => cntN (fun k => sePB w h n cells pull hx hy p k t) HN), cntN_swap (fun t k => sePB w h n cells pull hx hy p k t), N.1.2.2.1, s_ld hp (by omega), N.2.2.1 p hp]
      rcases (show j = 0 ∨ j = 1 ∨ j = 2 by omega) with e | e | e <;> subst e
      · rfl
      · rfl
      · rfl
    · have xx : x < w := by omega
      rw [if_neg (nI_ge xx (by omega))]
      exact (x_ofpY N S B hp xx (nI j) (fun z0 z1 z2 => X10_ofPlane_L8 G (nI p) (nI j) fuel z0 z1 z2) _ _ FU 0 (by unfold FU; omega) (Nat.zero_le _)).trans (ih (x + 1) (by omega) (by omega))
theorem x_ofPlane (N : NG G w h n HN V LL rc pull hx hy cells ti fa) (S : SBox w h n pull HN hx hy) (B : KBox w h n cells pull) {p j : Nat} (hp : p < n) (hj : j < 3) : X10_ofPlane G (nI p) (nI j) = some (ofpV w h n HN cells pull hx hy p j) :=
  x_ofpX N S B hp hj FU 0 (by have := S.1.2; unfold FU; omega) (Nat.zero_le _)
/-- what is told of a hole -/
def ofhV (w h n : Nat) (cells : Nat → Int32) (pull hx hy : Nat → Nat) (lk : Nat → Int32) (k j : Nat) : Int32 := match j with
  | 0 => nI (hx k)
  | 1 => nI (hy k)
  | 2 => lk k
  | 3 => nI (kdB w h (skB w h n cells pull (hx k) (hy k)))
  | _ => nI (dpB w h (spB w h n cells pull (hx k) (hy k)))
theorem x_ofHole (N : NG G w h n HN V LL rc pull hx hy cells ti fa) (S : SBox w h n pull HN hx hy) (B : KBox w h n cells pull) {lk : Nat → Int32} (hV : V ≤ 20) (I : CInv V HN lk fa) {k j : Nat} (hk : k < HN) (hj : j < 5) : X10_ofHole G (nI k) (nI j) = some (ofhV w h n cells pull hx hy lk k j) := by
  have s4 := S.2.2.2.1
  obtain ⟨n1, n2⟩ := N.2.2.2.2.1 k hk
  have e1 := x_looker N hV I hk s4
  have e2 := x_shownK N S B hk
  have e3 := x_shownD N S B hk
  have e4 := vp_in_nI hk (show HN < 2 ^ 31 by omega)
  unfold X10_ofHole X10_ofHole_J42
  rw [N.1.2.2.2.1]
  rcases (show j = 0 ∨ j = 1 ∨ j = 2 ∨ j = 3 ∨ j = 4 by omega) with e | e | e | e | e <;> subst e
  · rw [if_neg (show ¬ (2 : Int32) ≤ nI 0 by decide), q_ckv e4, nI_clamp (by omega), s_ld (by decide) (by decide), n1]; rfl
  · rw [if_neg (show ¬ (2 : Int32) ≤ nI 1 by decide), q_ckv e4, nI_clamp (by omega), s_ld (by decide) (by decide), n2]; rfl
  · rw [if_pos (show (2 : Int32) ≤ nI 2 by decide), if_pos (show nI 2 = (2 : Int32) from rfl), e1]; rfl
  · rw [if_pos (show (2 : Int32) ≤ nI 3 by decide), if_neg (show ¬ nI 3 = (2 : Int32) by decide), if_pos (show nI 3 = (3 : Int32) from rfl), e2]; rfl
  · rw [if_pos (show (2 : Int32) ≤ nI 4 by decide), if_neg (show ¬ nI 4 = (2 : Int32) by decide), if_neg (show ¬ nI 4 = (3 : Int32) by decide), e3]; rfl
theorem x_ofGuest (N : NG G w h n HN V LL rc pull hx hy cells ti fa) (hV : V ≤ 20) {v j : Nat} (hv : v < V) (hj : j < 7) : X10_ofGuest G (nI v) (nI j) = some (fa (v * 7 + j)) := by
  have nG := N.2.2.2.2.2 v hv
  unfold X10_ofGuest
  rw [N.1.2.2.2.2, q_ckv (vp_in_nI hv (by omega)), nI_clamp (show v < 2 ^ 31 by omega)]
  rcases (show j = 0 ∨ j = 1 ∨ j = 2 ∨ j = 3 ∨ j = 4 ∨ j = 5 ∨ j = 6 by omega) with e | e | e | e | e | e | e <;> subst e
  · rw [if_pos (show nI 0 = (0 : Int32) from rfl), nG 0 (by decide)]
  · rw [if_neg (by decide), if_pos (show nI 1 = (1 : Int32) from rfl), nG 1 (by decide)]
  · rw [if_neg (by decide), if_neg (by decide), if_pos (show nI 2 = (2 : Int32) from rfl), nG 2 (by decide)]
  · rw [if_neg (by decide), if_neg (by decide), if_neg (by decide), if_pos (show nI 3 = (3 : Int32) from rfl), nG 3 (by decide)]
  · rw [if_neg (by decide), if_neg (by decide), if_neg (by decide), if_neg (by decide), if_pos (show nI 4 = (4 : Int32) from rfl), nG 4 (by decide)]
  · rw [if_neg (by decide), if_neg (by decide), if_neg (by decide), if_neg (by decide), if_neg (by decide), if_pos (show nI 5 = (5 : Int32) from rfl), nG 5 (by decide)]
  · rw [if_neg (by decide), if_neg (by decide), if_neg (by decide), if_neg (by decide), if_neg (by decide), if_neg (by decide), nG 6 (by decide)]
end XD
