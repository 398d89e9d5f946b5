/-! NUMBERS: the law's own show: guests, what is told of it all -/
section XC
variable {G : LG} {w h n HN V LL rc : Nat} {pull hx hy : Nat → Nat} {cells : Nat → Int32} {ti : Int32} {fa : Nat → Int32}
theorem x_lookL (N : NG G w h n HN V LL rc pull hx hy cells ti fa) {lk : Nat → Int32} (hV : V ≤ 20) (I : CInv V HN lk fa) {k : Nat} (hk : k < HN) (hH : HN ≤ 4) : ∀ (fuel u : Nat), V - u < fuel → u ≤ V → (∀ v, v < u → ¬ (fa (v * 7 + 3) = nI 1 ∧ fa (v * 7 + 4) = nI k)) → X10_looker_L2 G (nI k) fuel (nI u) = some (lk k) := by
  intro fuel
  induction fuel with
  | zero => intro u h1; omega
  | succ fuel ih =>
    intro u h1 h2 hno
    have z4 : shZ G 4 = V := N.1.2.2.2.2
    have nG := N.2.2.2.2.2
    rw [X10_looker_L2, z4]
    by_cases cu : u = V
    · subst cu
      rw [if_pos (Int32.le_refl _)]
      rcases I.2 k hk with e | ⟨v, hv, e, e3, e4⟩
      · rw [e]; rfl
      · exact absurd ⟨e3, e4⟩ (hno v hv)
    · have hu : u < V := by omega
      rw [if_neg (nI_ge hu (by omega)), q_ckv (vp_in_nI hu (by omega)), nI_clamp (show u < 2 ^ 31 by omega), nG u hu 3 (by decide), nG u hu 4 (by decide)]
      by_cases c : fa (u * 7 + 3) = nI 1 ∧ fa (u * 7 + 4) = nI k
      · rw [if_pos (show fa (u * 7 + 3) = (1 : Int32) from c.1), q_ckw hu (by omega), if_pos c.2]
        obtain ⟨-, -, -, -, h3⟩ := I.1 u hu
        rcases h3 with ⟨-, k2, t, hk2, e4, el, -⟩ | ⟨e3, -⟩
        · rw [e4] at c
          have e2 : k2 = k := (nI_eq (by omega) (by omega)).mp c.2
          rw [← e2, el]
        · rw [c.1] at e3
          rcases e3 with e3 | e3 | e3 <;> exact absurd e3 (by decide)
      · have hno2 : ∀ v, v < u + 1 → ¬ (fa (v * 7 + 3) = nI 1 ∧ fa (v * 7 + 4) = nI k) := fun v hv => by
          by_cases ev : v = u
          · rw [ev]; exact c
          · exact hno v (by omega)
        have step : X10_looker_J39 G (nI k) (fun z0 => X10_looker_L2 G (nI k) fuel z0) (nI u) = some (lk k) := by
          unfold X10_looker_J39
          rw [s_nm, show (1 : Int32) = nI 1 from rfl, nI_add]
          exact ih (u + 1) (by omega) (by omega) hno2
        by_cases c3 : fa (u * 7 + 3) = nI 1
        · rw [if_pos (show fa (u * 7 + 3) = (1 : Int32) from c3), q_ckw hu (by omega), if_neg (fun z => c ⟨c3, z⟩)]
          exact step
        · rw [if_neg (show ¬ fa (u * 7 + 3) = (1 : Int32) from c3)]
          exact step
theorem x_looker (N : NG G w h n HN V LL rc pull hx hy cells ti fa) {lk : Nat → Int32} (hV : V ≤ 20) (I : CInv V HN lk fa) {k : Nat} (hk : k < HN) (hH : HN ≤ 4) : X10_looker G (nI k) = some (lk k) :=
  x_lookL N hV I hk hH FU 0 (by unfold FU; omega) (Nat.zero_le _) (fun v hv => absurd hv (Nat.not_lt_zero v))
theorem x_stateL (N : NG G w h n HN V LL rc pull hx hy cells ti fa) (hV : V ≤ 20) (s : Int32) : ∀ (fuel i c : Nat), V - i < fuel → i ≤ V → c = cntN (fun v => decide (fa (v * 7 + 3) = s)) i → X10_inState_L14 G s fuel (nI c) (nI V) (nI i) = some (nI (stN fa V s)) := by
  intro fuel
  induction fuel with
  | zero => intro i c h1; omega
  | succ fuel ih =>
    intro i c h1 h2 hc
    have z4 : shZ G 4 = V := N.1.2.2.2.2
    rw [X10_inState_L14]
    by_cases ci : i = V
    · subst ci hc
      rw [if_pos (Int32.le_refl _)]; rfl
    · have hi : i < V := by omega
      rw [if_neg (nI_ge hi (by omega)), z4, q_ckv (vp_in_nI hi (by omega)), nI_clamp (show i < 2 ^ 31 by omega), N.2.2.2.2.2 i hi 3 (by decide)]
      by_cases cs : fa (i * 7 + 3) = s
      · rw [if_pos cs, s_nm]
        unfold X10_inState_J39
        rw [s_nm, show (1 : Int32) = nI 1 from rfl, nI_add, nI_add]
        exact ih (i + 1) (c + 1) (by omega) (by omega) (by rw [hc, cntN_t (decide_eq_true cs)])
      · rw [if_neg cs]
        unfold X10_inState_J39
        rw [s_nm, show (1 : Int32) = nI 1 from rfl, nI_add]
        exact ih (i + 1) c (by omega) (by omega) (by rw [hc, cntN_f (decide_eq_false cs)])
theorem x_inState (N : NG G w h n HN V LL rc pull hx hy cells ti fa) (hV : V ≤ 20) (s : Int32) : X10_inState G s = some (nI (stN fa V s)) := by
  unfold X10_inState
  rw [N.1.2.2.2.2, s_nm]
  exact x_stateL N hV s FU 0 0 (by unfold FU; omega) (Nat.zero_le _) rfl
theorem x_paidL (N : NG G w h n HN V LL rc pull hx hy cells ti fa) (hV : V ≤ 20) : ∀ (fuel i : Nat) (c : Int32), V - i < fuel → i ≤ V → c = sumI (fun v => fa (v * 7 + 6)) i → X10_paid_L13 G fuel c (nI V) (nI i) = some (paidI fa V) := by
  intro fuel
  induction fuel with
  | zero => intro i c h1; omega
  | succ fuel ih =>
    intro i c h1 h2 hc
    have z4 : shZ G 4 = V := N.1.2.2.2.2
    rw [X10_paid_L13]
    by_cases ci : i = V
    · subst ci hc
      rw [if_pos (Int32.le_refl _)]; rfl
    · have hi : i < V := by omega
      rw [if_neg (nI_ge hi (by omega)), z4, q_ckv (vp_in_nI hi (by omega)), nI_clamp (show i < 2 ^ 31 by omega), N.2.2.2.2.2 i hi 6 (by decide), s_nm, s_nm, show (1 : Int32) = nI 1 from rfl, nI_add]
      exact ih (i + 1) _ (by omega) (by omega) (by rw [hc, sumI_add])
theorem x_paid (N : NG G w h n HN V LL rc pull hx hy cells ti fa) (hV : V ≤ 20) : X10_paid G = some (paidI fa V) := by
  unfold X10_paid
  rw [N.1.2.2.2.2, s_nm]
  exact x_paidL N hV FU 0 0 (by unfold FU; omega) (Nat.zero_le _) rfl
/-- what told answers, when f holes are free -/
def toldV (w h n HN V LL rc : Nat) (ti : Int32) (fa : Nat → Int32) (f : Nat) (i : Nat) : Int32 := match i with
  | 0 => nI w
  | 1 => nI h
  | 2 => nI n
  | 3 => nI HN
  | 4 => nI rc
  | 5 => nI LL
  | 6 => ti
  | 7 => nI V
  | 8 => nI (stN fa V (nI 0))
  | 9 => nI (stN fa V (nI 1))
  | 10 => nI (stN fa V (nI 2))
  | 11 => nI (stN fa V (nI 3))
  | 12 => paidI fa V
  | _ => nI f
theorem x_toldE (N : NG G w h n HN V LL rc pull hx hy cells ti fa) (hV : V ≤ 20) (f i : Nat) (hi : i < 14) (fuel : Nat) (k : Int32) (hk : nI HN ≤ k) : X10_told_L4 G (nI i) (fuel + 1) (nI f) k = some (toldV w h n HN V LL rc ti fa f i) := by
  obtain ⟨⟨z0, z1, z2, z3, z4⟩, ⟨i0, i1, i2⟩, -⟩ := id N
  rw [X10_told_L4, z3, if_pos hk]
  rcases (show i = 0 ∨ i = 1 ∨ i = 2 ∨ i = 3 ∨ i = 4 ∨ i = 5 ∨ i = 6 ∨ i = 7 ∨ i = 8 ∨ i = 9 ∨ i = 10 ∨ i = 11 ∨ i = 12 ∨ i = 13 by omega) with e | e | e | e | e | e | e | e | e | e | e | e | e | e <;> subst e <;> simp (disch := omega) only [s_lit, s_b0, s_b1, s_b2, s_b3, s_b4, s_b5, s_b6, s_x0, s_x0l, s_t1, s_nm, s_ckT, s_ld, s_st, s_clamp, nI_add, pk_mul, s_sub, s_nad, s_div, s_mod, s_rem2, s_le_t, s_le_f, s_lt_t, s_lt_f, s_eq_t, s_eq_f, s_n1, s_n2, s_n3, s_n4, s_n5, s_n6, s_n7, s_n8, s_n9, s_n10, s_n11, s_n12, s_us, s_un, s_uLs, s_uLn, ↓reduceIte, not_false_eq_true, not_true_eq_false, true_and, and_true, and_self, or_false, false_or, or_self, true_or, or_true, false_and, and_false, Int32.neg_neg, Nat.add_zero, Nat.zero_add, Nat.reduceSub, Nat.reduceAdd, Nat.reduceMul, Nat.reduceLeDiff, z0, z1, z2, z3, z4, i0, i1, i2, x_inState N hV, x_paid N hV, toldV]
theorem x_toldL (N : NG G w h n HN V LL rc pull hx hy cells ti fa) {lk : Nat → Int32} (hV : V ≤ 20) (I : CInv V HN lk fa) (hH : HN ≤ 4) {i : Nat} (hi : i < 14) : ∀ (fuel k c : Nat), HN - k < fuel → k ≤ HN → c = cntN (fun k => decide (lk k = -nI 1)) k → X10_told_L4 G (nI i) fuel (nI c) (nI k) = some (toldV w h n HN V LL rc ti fa (cntN (fun k => decide (lk k = -nI 1)) HN) i) := by
  intro fuel
  induction fuel with
  | zero => intro k c h1; omega
  | succ fuel ih =>
    intro k c h1 h2 hc
    by_cases ck : k = HN
    · subst ck hc
      exact x_toldE N hV _ i hi fuel _ (Int32.le_refl _)
    · have hk : k < HN := by omega
      rw [X10_told_L4, N.1.2.2.2.1, if_neg (nI_ge hk (by omega)), x_looker N hV I hk hH, q_bn1]
      unfold X10_told_J24
      rcases I.2 k hk with e | ⟨v, hv, e, -, -⟩
      · rw [e, if_neg (show ¬ (0 : Int32) ≤ -nI 1 by decide), s_nm, s_nm, show (1 : Int32) = nI 1 from rfl, nI_add, nI_add]
        exact ih (k + 1) (c + 1) (by omega) (by omega) (by rw [hc, cntN_t (decide_eq_true e)])
      · rw [e, if_pos (show (0 : Int32) ≤ nI v from nI_pos' (by omega)), s_nm, show (1 : Int32) = nI 1 from rfl, nI_add]
        exact ih (k + 1) c (by omega) (by omega) (by rw [hc, cntN_f (decide_eq_false (by rw [e]; intro z; have := s_n5 (a := v) (b := 1) (by decide) (by decide) (by omega); rw [this] at z; exact z))])
theorem x_told (N : NG G w h n HN V LL rc pull hx hy cells ti fa) {lk : Nat → Int32} (hV : V ≤ 20) (I : CInv V HN lk fa) (hH : HN ≤ 4) {i : Nat} (hi : i < 14) : X10_told G (nI i) = some (toldV w h n HN V LL rc ti fa (cntN (fun k => decide (lk k = -nI 1)) HN) i) :=
  x_toldL N hV I hH hi FU 0 0 (by unfold FU; omega) (Nat.zero_le _) rfl
end XC
