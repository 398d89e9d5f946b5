/-! NUMBERS: the reference's reader: a variable in a sum -/
section XR
variable {E : Nat} {bytes buffer : Nat → Int32} {tx : Nat → Nat}
theorem r_facVar (T : Txt E bytes buffer tx) (rs : Int32 → Int32 → Int32 → Int32 → Int32 → Int32 → (Nat → Int32) → (Nat → Int32) → Option (Int32 × Int32 × Int32 × Int32 × Int32 × (Nat → Int32))) {p q v L : Nat} (ea ns nest : Int32) {d : Nat → Int32} (hp : p ≤ E) (hs : sk E tx p = q) (hv : v < 4) (hm : AtT E tx q (vTx v)) (he : Stop E tx (q + (vTx v).length)) (h9 : d 9 = nI L) (hL : L < 900) :
    ∃ n2, X7_factor rs (nI E) (nI p) (nI 0) ea ns nest buffer d = some (nI (q + (vTx v).length), nI 0, ea, n2, nest, emL d L [nI 1, nI v]) := by
  have ha := t_ahead T hp
  rw [hs] at ha
  have emit : (bn1 (X7_emit (nI 0) d (1 : Int32)) fun o1 => bn1 (X7_emit (nI 0) o1 (nI v)) fun o3 => some (nI (q + (vTx v).length), nI 0, ea, ns, nest, o3)) = some (nI (q + (vTx v).length), nI 0, ea, ns, nest, emL d L [nI 1, nI v]) := by
    rw [q_b1 (r_emitD (1 : Int32) h9 (by omega)), q_b1 (r_emitD (nI v) emD_9 (by omega))]; rfl
  refine ⟨ns, ?_⟩
  have fin : ∀ (c : Nat), tx q = c → q < E → ltB c = true → ¬ chA E tx q = (40 : Int32) ∧ X7_isDigit (chA E tx q) = some (b01 false) := by
    intro c hc hlt hb
    have := ltB_t hb
    have hd := (t_ch T q).2.1
    rw [chB_in hlt, hc, show dgB c = false from decide_eq_false (by omega)] at hd
    refine ⟨?_, hd⟩
    rw [chA_in hlt, hc]
    exact fun z => by have := (nI_eq (b := 40) (by omega) (by decide)).mp z; omega
  rcases (show v = 0 ∨ v = 1 ∨ v = 2 ∨ v = 3 by omega) with e | e | e | e <;> subst e
  · have hq : q + 5 ≤ E := hm.1
    have t0 : tx q = 115 := hm.at T (j := 0) (by decide) rfl (by decide)
    obtain ⟨f1, f2⟩ := fin 115 t0 (by omega) (by decide)
    have e1 := r_w w_shown T rfl (show tx q ≠ 32 by omega) hm (fun j hj => by rcases (show j = 0 ∨ j = 1 ∨ j = 2 ∨ j = 3 ∨ j = 4 by omega) with e | e | e | e | e <;> subst e <;> rfl) he.2
    unfold X7_factor
    rw [show X7_isGood (nI 0) = some 1 from rfl, q_bn1, if_neg (show ¬ (1 : Int32) = 0 by decide), q_b2 ha, if_neg f1, q_b1 f2, if_pos (show b01 false = 0 by decide), q_b2 e1, if_neg (show ¬ nI 1 = 0 by decide)]
    unfold X7_factor_J142 X7_factor_J159 X7_factor_J170
    rw [if_pos (show (0 : Int32) ≤ 0 by decide), if_pos (show (0 : Int32) ≤ 0 by decide)]
    exact emit
  · have hq : q + 5 ≤ E := hm.1
    have t0 : tx q = 107 := hm.at T (j := 0) (by decide) rfl (by decide)
    obtain ⟨f1, f2⟩ := fin 107 t0 (by omega) (by decide)
    have e0 := r_no0 w_shown T (q := q) (by omega) (by omega) (by decide) (by rw [t0]; decide)
    have e1 := r_w w_kinds T rfl (show tx q ≠ 32 by omega) hm (fun j hj => by rcases (show j = 0 ∨ j = 1 ∨ j = 2 ∨ j = 3 ∨ j = 4 by omega) with e | e | e | e | e <;> subst e <;> rfl) he.2
    unfold X7_factor
    rw [show X7_isGood (nI 0) = some 1 from rfl, q_bn1, if_neg (show ¬ (1 : Int32) = 0 by decide), q_b2 ha, if_neg f1, q_b1 f2, if_pos (show b01 false = 0 by decide), q_b2 e0, if_pos (show nI 0 = 0 from rfl), q_b2 e1, if_neg (show ¬ nI 1 = 0 by decide)]
    unfold X7_factor_J142 X7_factor_J159 X7_factor_J170
    rw [if_pos (show (0 : Int32) ≤ 1 by decide), if_pos (show (0 : Int32) ≤ 1 by decide)]
    exact emit
  · have hq : q + 5 ≤ E := hm.1
    have t0 : tx q = 100 := hm.at T (j := 0) (by decide) rfl (by decide)
    obtain ⟨f1, f2⟩ := fin 100 t0 (by omega) (by decide)
    have e0 := r_no0 w_shown T (q := q) (by omega) (by omega) (by decide) (by rw [t0]; decide)
    have e00 := r_no0 w_kinds T (q := q) (by omega) (by omega) (by decide) (by rw [t0]; decide)
    have e1 := r_w w_depth T rfl (show tx q ≠ 32 by omega) hm (fun j hj => by rcases (show j = 0 ∨ j = 1 ∨ j = 2 ∨ j = 3 ∨ j = 4 by omega) with e | e | e | e | e <;> subst e <;> rfl) he.2
    unfold X7_factor
    rw [show X7_isGood (nI 0) = some 1 from rfl, q_bn1, if_neg (show ¬ (1 : Int32) = 0 by decide), q_b2 ha, if_neg f1, q_b1 f2, if_pos (show b01 false = 0 by decide), q_b2 e0, if_pos (show nI 0 = 0 from rfl), q_b2 e00, if_pos (show nI 0 = 0 from rfl), q_b2 e1, if_neg (show ¬ nI 1 = 0 by decide)]
    unfold X7_factor_J142 X7_factor_J159 X7_factor_J170
    rw [if_pos (show (0 : Int32) ≤ 2 by decide), if_pos (show (0 : Int32) ≤ 2 by decide)]
    exact emit
  · have hq : q + 4 ≤ E := hm.1
    have t0 : tx q = 104 := hm.at T (j := 0) (by decide) rfl (by decide)
    obtain ⟨f1, f2⟩ := fin 104 t0 (by omega) (by decide)
    have e0 := r_no0 w_shown T (q := q) (by omega) (by omega) (by decide) (by rw [t0]; decide)
    have e00 := r_no0 w_kinds T (q := q) (by omega) (by omega) (by decide) (by rw [t0]; decide)
    have e01 := r_no0 w_depth T (q := q) (by omega) (by omega) (by decide) (by rw [t0]; decide)
    have e1 := r_w w_hole T rfl (show tx q ≠ 32 by omega) hm (fun j hj => by rcases (show j = 0 ∨ j = 1 ∨ j = 2 ∨ j = 3 by omega) with e | e | e | e <;> subst e <;> rfl) he.2
    unfold X7_factor
    rw [show X7_isGood (nI 0) = some 1 from rfl, q_bn1, if_neg (show ¬ (1 : Int32) = 0 by decide), q_b2 ha, if_neg f1, q_b1 f2, if_pos (show b01 false = 0 by decide), q_b2 e0, if_pos (show nI 0 = 0 from rfl), q_b2 e00, if_pos (show nI 0 = 0 from rfl), q_b2 e01, if_pos (show nI 0 = 0 from rfl), q_b2 e1, if_neg (show ¬ nI 1 = 0 by decide)]
    unfold X7_factor_J142 X7_factor_J159 X7_factor_J170
    rw [if_pos (show (0 : Int32) ≤ 3 by decide), if_pos (show (0 : Int32) ≤ 3 by decide)]
    exact emit
end XR
