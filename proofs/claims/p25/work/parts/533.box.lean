/-! NUMBERS: the reference's reader: the box at a text's head -/
section XR
variable {E : Nat} {bytes buffer : Nat → Int32} {tx : Nat → Nat}
theorem r_boxTxt (T : Txt E bytes buffer tx) {w h n e : Nat} (ns ea : Int32) (hw : 1 ≤ w ∧ w ≤ 12) (hh : 1 ≤ h ∧ h ≤ 8) (hn : 1 ≤ n ∧ n ≤ 5) (m0 : AtT E tx 0 [98, 111, 120]) (m1 : AtT E tx 3 ([32] ++ dcs w)) (m2 : AtT E tx (3 + 1 + (dcs w).length) ([32] ++ dcs h)) (m3 : AtT E tx (3 + 1 + (dcs w).length + 1 + (dcs h).length) ([32] ++ dcs n)) (he : e = 3 + 1 + (dcs w).length + 1 + (dcs h).length + 1 + (dcs n).length) (hE : e < E) (h59 : tx e = 59) :
    X7_takeWord [98, 111, 120] (nI E) (nI 0) (nI 0) buffer = some (nI 1, nI 3) ∧ ∃ p1 p2 n1 n2 n3, X7_number (nI E) (nI 3) (nI 0) ea ns buffer (1 : Int32) (12 : Int32) = some (nI w, p1, nI 0, ea, n1) ∧ X7_number (nI E) p1 (nI 0) ea n1 buffer (1 : Int32) (8 : Int32) = some (nI h, p2, nI 0, ea, n2) ∧ X7_number (nI E) p2 (nI 0) ea n2 buffer (1 : Int32) (5 : Int32) = some (nI n, nI e, nI 0, ea, n3) ∧ X7_expect (nI E) (nI e) (nI 0) ea buffer (59 : Int32) = some (nI (e + 1), nI 0, ea) := by
  have t0 : tx 0 = 98 := m0.at T (j := 0) (by decide) rfl (by decide)
  have t1 : tx 3 = 32 := m1.app.1.at T (j := 0) (Nat.succ_pos _) rfl (by decide)
  have t2 : tx (3 + 1 + (dcs w).length) = 32 := m2.app.1.at T (j := 0) (Nat.succ_pos _) rfl (by decide)
  have t3 : tx (3 + 1 + (dcs w).length + 1 + (dcs h).length) = 32 := m3.app.1.at T (j := 0) (Nat.succ_pos _) rfl (by decide)
  have g0 := r_w w_box T (q := 0) rfl (by omega) m0 (fun j hj => by rcases (show j = 0 ∨ j = 1 ∨ j = 2 by omega) with e | e | e <;> subst e <;> rfl) (w5_not T (show 0 + 3 < E by omega) (by rw [Nat.zero_add]; exact t1))
  rw [Nat.zero_add] at g0
  have g1 := r_num T (lo := 1) (hi := 12) ns ea hw.1 hw.2 (by decide) m1 (by rw [chB_in (by omega), t2]; decide)
  have g2 := r_num T (lo := 1) (hi := 8) (nI (3 + 1)) ea hh.1 hh.2 (by decide) m2 (by rw [chB_in (by omega), t3]; decide)
  have g3 := r_num T (lo := 1) (hi := 5) (nI (3 + 1 + (dcs w).length + 1)) ea hn.1 hn.2 (by decide) m3 (by rw [← he, chB_in hE, h59]; decide)
  rw [← he] at g3
  exact ⟨g0, _, _, _, _, _, g1, g2, g3, r_expect T ea (Nat.le_of_lt hE) (sk_at (by omega)) hE h59⟩
end XR
