/-! NUMBERS: the reference's reader: a number as the law writes it -/
section XR
variable {E : Nat} {bytes buffer : Nat → Int32} {tx : Nat → Nat}
/-- the letters s stand at p -/
def AtT (E : Nat) (tx : Nat → Nat) (p : Nat) (s : List Int32) : Prop := p + s.length ≤ E ∧ ∀ j, j < s.length → nI (tx (p + j)) = s.getD j 0
theorem AtT.app {p : Nat} {s r : List Int32} (h : AtT E tx p (s ++ r)) : AtT E tx p s ∧ AtT E tx (p + s.length) r := by
  obtain ⟨h1, h2⟩ := h
  rw [List.length_append] at h1 h2
  refine ⟨⟨by omega, fun j hj => by rw [h2 j (by omega), gD_l hj]⟩, ⟨by omega, fun j hj => ?_⟩⟩
  rw [Nat.add_assoc, h2 (s.length + j) (by omega), gD_r (by omega), Nat.add_sub_cancel_left]
theorem AtT.at (T : Txt E bytes buffer tx) {p j m : Nat} {s : List Int32} (h : AtT E tx p s) (hj : j < s.length) (e : s.getD j 0 = nI m) (hm : m < 2 ^ 31) : tx (p + j) = m := by
  have h1 := h.1
  exact (nI_eq (Nat.lt_trans (T.2 (p + j) (by omega)).1 (by decide)) hm).mp ((h.2 j hj).trans e)
theorem dcs_pos (v : Nat) : 0 < (dcs v).length := by
  unfold dcs; split
  · exact Nat.succ_pos _
  · split
    · exact Nat.succ_pos _
    · split
      · exact Nat.succ_pos _
      · exact Nat.succ_pos _
theorem r_dcsL (T : Txt E bytes buffer tx) {q v lo hi : Nat} (ea : Int32) (h1 : lo ≤ v) (h2 : v ≤ hi) (hh : hi ≤ 9999) (hm : AtT E tx q (dcs v)) (he : chB E tx dgB (q + (dcs v).length) = false) (fuel : Nat) : X7_number_L41 (nI E) (nI 0) ea buffer (nI lo) (nI hi) (fuel + 1 + 1 + 1 + 1 + 1) (nI 0) (nI q) (nI q) = some (nI v, nI (q + (dcs v).length), nI 0, ea, nI q) ∧ 48 ≤ tx q ∧ tx q ≤ 57 := by
  have hE := T.1
  unfold dcs at hm he ⊢
  by_cases c1 : v < 10
  · rw [if_pos c1] at hm he ⊢
    have hq : q + 1 ≤ E := hm.1
    have d0 : tx q = 48 + v := hm.at T (j := 0) (Nat.succ_pos _) rfl (by omega)
    refine ⟨?_, by omega⟩
    rw [r_digit T _ _ _ (by omega) (by omega) (by omega), d0, show 10 * 0 + (48 + v - 48) = v by omega]
    exact r_numEnd T _ _ _ (by omega) he h1 h2 hh
  · rw [if_neg c1] at hm he ⊢
    by_cases c2 : v < 100
    · rw [if_pos c2] at hm he ⊢
      have hq : q + 2 ≤ E := hm.1
      have d0 : tx q = 48 + v / 10 := hm.at T (j := 0) (Nat.succ_pos _) rfl (by omega)
      have d1 : tx (q + 1) = 48 + v % 10 := hm.at T (j := 1) (Nat.succ_lt_succ (Nat.succ_pos _)) rfl (by omega)
      refine ⟨?_, by omega⟩
      rw [r_digit T _ _ _ (by omega) (by omega) (by omega), d0, r_digit T _ _ _ (by omega) (by omega) (by omega), d1, show 10 * (10 * 0 + (48 + v / 10 - 48)) + (48 + v % 10 - 48) = v by omega]
      exact r_numEnd T _ _ _ (by omega) he h1 h2 hh
    · rw [if_neg c2] at hm he ⊢
      by_cases c3 : v < 1000
      · rw [if_pos c3] at hm he ⊢
        have hq : q + 3 ≤ E := hm.1
        have d0 : tx q = 48 + v / 100 := hm.at T (j := 0) (Nat.succ_pos _) rfl (by omega)
        have d1 : tx (q + 1) = 48 + v / 10 % 10 := hm.at T (j := 1) (Nat.succ_lt_succ (Nat.succ_pos _)) rfl (by omega)
        have d2 : tx (q + 1 + 1) = 48 + v % 10 := hm.at T (j := 2) (Nat.succ_lt_succ (Nat.succ_lt_succ (Nat.succ_pos _))) rfl (by omega)
        refine ⟨?_, by omega⟩
        rw [r_digit T _ _ _ (by omega) (by omega) (by omega), d0, r_digit T _ _ _ (by omega) (by omega) (by omega), d1, r_digit T _ _ _ (by omega) (by omega) (by omega), d2, show 10 * (10 * (10 * 0 + (48 + v / 100 - 48)) + (48 + v / 10 % 10 - 48)) + (48 + v % 10 - 48) = v by omega]
        exact r_numEnd T _ _ _ (by omega) he h1 h2 hh
      · rw [if_neg c3] at hm he ⊢
        have hq : q + 4 ≤ E := hm.1
        have d0 : tx q = 48 + v / 1000 := hm.at T (j := 0) (Nat.succ_pos _) rfl (by omega)
        have d1 : tx (q + 1) = 48 + v / 100 % 10 := hm.at T (j := 1) (Nat.succ_lt_succ (Nat.succ_pos _)) rfl (by omega)
        have d2 : tx (q + 1 + 1) = 48 + v / 10 % 10 := hm.at T (j := 2) (Nat.succ_lt_succ (Nat.succ_lt_succ (Nat.succ_pos _))) rfl (by omega)
        have d3 : tx (q + 1 + 1 + 1) = 48 + v % 10 := hm.at T (j := 3) (Nat.succ_lt_succ (Nat.succ_lt_succ (Nat.succ_lt_succ (Nat.succ_pos _)))) rfl (by omega)
        refine ⟨?_, by omega⟩
        rw [r_digit T _ _ _ (by omega) (by omega) (by omega), d0, r_digit T _ _ _ (by omega) (by omega) (by omega), d1, r_digit T _ _ _ (by omega) (by omega) (by omega), d2, r_digit T _ _ _ (by omega) (by omega) (by omega), d3, show 10 * (10 * (10 * (10 * 0 + (48 + v / 1000 - 48)) + (48 + v / 100 % 10 - 48)) + (48 + v / 10 % 10 - 48)) + (48 + v % 10 - 48) = v by omega]
        exact r_numEnd T _ _ _ (by omega) he h1 h2 hh
theorem r_dcs (T : Txt E bytes buffer tx) {p q v lo hi : Nat} (ns ea : Int32) (hp : p ≤ E) (hs : sk E tx p = q) (h1 : lo ≤ v) (h2 : v ≤ hi) (hh : hi ≤ 9999) (hm : AtT E tx q (dcs v)) (he : chB E tx dgB (q + (dcs v).length) = false) : X7_number (nI E) (nI p) (nI 0) ea ns buffer (nI lo) (nI hi) = some (nI v, nI (q + (dcs v).length), nI 0, ea, nI q) := by
  have ha := t_ahead T hp
  have hl := dcs_pos v
  have hq := hm.1
  obtain ⟨g1, g2⟩ := r_dcsL T ea h1 h2 hh hm he 999995
  have hc := (t_ch T q).2.1
  rw [chB_in (show q < E by omega), show dgB (tx q) = true from decide_eq_true g2] at hc
  rw [hs] at ha
  unfold X7_number X7_isGood
  rw [if_pos (show nI 0 = (0 : Int32) from rfl), q_bn1, if_neg (show ¬ (1 : Int32) = 0 by decide), q_b2 ha, q_b1 hc, if_neg (show ¬ b01 true = 0 by decide)]
  exact g1
end XR
