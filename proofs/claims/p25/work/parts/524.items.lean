/-! NUMBERS: the reference's reader: a hole, a viewer -/
section XR
variable {E : Nat} {bytes buffer : Nat → Int32} {tx : Nat → Nat}
theorem r_num (T : Txt E bytes buffer tx) {p v lo hi : Nat} (ns ea : Int32) (h1 : lo ≤ v) (h2 : v ≤ hi) (hh : hi ≤ 9999) (hm : AtT E tx p ([32] ++ dcs v)) (he : chB E tx dgB (p + 1 + (dcs v).length) = false) : X7_number (nI E) (nI p) (nI 0) ea ns buffer (nI lo) (nI hi) = some (nI v, nI (p + 1 + (dcs v).length), nI 0, ea, nI (p + 1)) := by
  obtain ⟨m1, m2⟩ := hm.app
  have m2 : AtT E tx (p + 1) (dcs v) := m2
  have hl := dcs_pos v
  have hq := m2.1
  have g := (r_dcsL T ea h1 h2 hh m2 he 0).2
  have h32 : tx p = 32 := m1.at T (j := 0) (Nat.succ_pos _) rfl (by decide)
  exact r_dcs T ns ea (by omega) (sk_one (by omega) h32 (by omega)) h1 h2 hh m2 he
def hlD (d : Nat → Int32) (c x y : Nat) : Nat → Int32 := upd (upd (upd d (495 + 2 * c) (nI x)) (495 + 2 * c + 1) (nI y)) 3 (nI (c + 1))
theorem r_hole (T : Txt E bytes buffer tx) {w h c p x y : Nat} (ns ea p1 : Int32) (hw : w ≤ 12) (hh : h ≤ 8) (hc : c < 4) (hx : x < w) (hy : y < h) {d : Nat → Int32} (d0 : d 0 = nI w) (d1 : d 1 = nI h) (d3 : d 3 = nI c) (m1 : AtT E tx p ([32] ++ dcs x)) (m2 : AtT E tx (p + 1 + (dcs x).length) ([32] ++ dcs y)) (he : chB E tx dgB (p + 1 + (dcs x).length + 1 + (dcs y).length) = false) :
    ∃ n2, X7_readHole (nI E) (nI p) (nI 0) ea ns buffer d p1 = some (nI (p + 1 + (dcs x).length + 1 + (dcs y).length), nI 0, ea, n2, hlD d c x y) := by
  have hE := T.1
  have q2 := m2.1
  rw [List.length_append] at q2
  have q2 : p + 1 + (dcs x).length + (1 + (dcs y).length) ≤ E := q2
  have t2 : tx (p + 1 + (dcs x).length) = 32 := m2.app.1.at T (j := 0) (Nat.succ_pos _) rfl (by decide)
  have e1 : chB E tx dgB (p + 1 + (dcs x).length) = false := by
    have := dcs_pos y
    rw [chB_in (by omega), t2]; decide
  have g1 := r_num T (lo := 0) (hi := w - 1) ns ea (Nat.zero_le _) (by omega) (by omega) m1 e1
  have g2 := r_num T (lo := 0) (hi := h - 1) (nI (p + 1)) ea (Nat.zero_le _) (by omega) (by omega) m2 he
  refine ⟨nI (p + 1 + (dcs x).length + 1), ?_⟩
  unfold X7_readHole X7_readHole_J17
  rw [q_ld (i := (3 : Int32)) d 3 _ rfl (by omega) (by omega), d3, if_neg (show ¬ nI c = (4 : Int32) from fun z => by have := (nI_eq (b := 4) (by omega) (by decide)).mp z; omega), q_ld (i := (0 : Int32)) d 0 _ rfl (by omega) (by omega), d0, show nI w - (1 : Int32) = nI (w - 1) from pk_sub (b := 1) (by omega), q_b5 (show X7_number (nI E) (nI p) (nI 0) ea ns buffer (0 : Int32) (nI (w - 1)) = _ from g1), q_ld (i := (1 : Int32)) d 1 _ rfl (by omega) (by omega), d1, show nI h - (1 : Int32) = nI (h - 1) from pk_sub (b := 1) (by omega), q_b5 (show X7_number (nI E) (nI (p + 1 + (dcs x).length)) (nI 0) ea (nI (p + 1)) buffer (0 : Int32) (nI (h - 1)) = _ from g2)]
  have f3 : upd d (495 + 2 * c) (nI x) 3 = nI c := by rw [pk_un (by omega)]; exact d3
  have f4 : upd (upd d (495 + 2 * c) (nI x)) (495 + 2 * c + 1) (nI y) 3 = nI c := by rw [pk_un (by omega)]; exact f3
  simp (disch := omega) only [s_lit, s_b0, s_b1, s_b2, s_b3, s_b4, s_b5, s_b6, s_x0, s_x0l, s_t1, s_nm, s_ckT, s_ld, s_st, s_clamp, nI_add, pk_mul, s_sub, s_nad, s_div, s_mod, s_rem2, s_le_t, s_le_f, s_lt_t, s_lt_f, s_eq_t, s_eq_f, s_n1, s_n2, s_n3, s_n4, s_n5, s_n6, s_n7, s_n8, s_n9, s_n10, s_n11, s_n12, s_us, s_un, s_uLs, s_uLn, ↓reduceIte, not_false_eq_true, not_true_eq_false, true_and, and_true, and_self, or_false, false_or, or_self, true_or, or_true, false_and, and_false, Int32.neg_neg, Nat.add_zero, Nat.zero_add, Nat.reduceSub, Nat.reduceAdd, Nat.reduceMul, Nat.reduceLeDiff, X7_isGood, d3, f3, f4, hlD]
theorem r_kind (T : Txt E bytes buffer tx) {p k : Nat} (ea : Int32) (hp : p + 2 ≤ E) (t0 : tx p = 32) (t1 : tx (p + 1) = 97 + k) (hk : k < 26) (he : chB E tx ltB (p + 2) = false) : X7_kind (nI E) (nI p) (nI 0) ea buffer = some (nI k, nI (p + 2), nI 0, ea) := by
  have hE := T.1
  have ha := t_ahead T (p := p) (by omega)
  rw [sk_one (by omega) t0 (by omega), chA_in (by omega), t1] at ha
  have b1 := t_byteAt T (p := p + 1) (by omega)
  have c1 := (t_ch T (p + 1)).2.2.2.1
  rw [chB_in (show p + 1 < E by omega), t1, show ltB (97 + k) = true from decide_eq_true (by omega)] at c1
  rw [chA_in (by omega), t1] at b1 c1
  have b2 := t_byteAt T (p := p + 1 + 1) (by omega)
  have c2 := (t_ch T (p + 1 + 1)).2.2.2.1
  rw [show p + 2 = p + 1 + 1 from rfl] at he
  rw [he] at c2
  unfold X7_kind X7_isGood
  rw [if_pos (show nI 0 = (0 : Int32) from rfl), q_bn1, if_neg (show ¬ (1 : Int32) = 0 by decide), q_b2 ha, show FU = 999998 + 1 + 1 from rfl, X7_kind_L21, show nI (p + 1) + (0 : Int32) = nI (p + 1) from nI_add (p + 1) 0, q_b1 b1, show (97 : Int32) = nI 97 from rfl, show (122 : Int32) = nI 122 from rfl, q_b1 c1, if_neg (show ¬ b01 true = 0 by decide), s_nm, X7_kind_L21, show nI (p + 1) + ((0 : Int32) + 1) = nI (p + 1 + 1) from nI_add (p + 1) 1, q_b1 b2, show (97 : Int32) = nI 97 from rfl, show (122 : Int32) = nI 122 from rfl, q_b1 c2, if_pos (show b01 false = 0 by decide), if_neg (show ¬ (0 : Int32) + 1 = 0 by decide)]
  unfold X7_kind_J55 X7_kind_J67 X7_isGood
  rw [if_pos (show (0 : Int32) + 1 ≤ 1 by decide), show nI (p + 1) + ((0 : Int32) + 1) = nI (p + 1 + 1) from nI_add (p + 1) 1, s_nm, if_pos (show nI 0 = (0 : Int32) from rfl), q_bn1, if_neg (show ¬ (1 : Int32) = 0 by decide), show nI (97 + k) - (97 : Int32) = nI k from (pk_sub (b := 97) (by omega)).trans (congrArg nI (by omega))]
theorem r_viewer (T : Txt E bytes buffer tx) {V p a q c : Nat} (ns ea p1 : Int32) (hV : V < 20) (ha : a ≤ 9) (hq : q < 26) (hc : c ≤ 999) {d : Nat → Int32} (d7 : d 7 = nI V) (m1 : AtT E tx p ([32] ++ dcs a)) (t0 : tx (p + 1 + (dcs a).length) = 32) (t1 : tx (p + 1 + (dcs a).length + 1) = 97 + q) (m2 : AtT E tx (p + 1 + (dcs a).length + 2) ([32] ++ dcs c)) (he : chB E tx dgB (p + 1 + (dcs a).length + 2 + 1 + (dcs c).length) = false) :
    ∃ n2, X7_readViewer (nI E) (nI p) (nI 0) ea ns buffer d p1 = some (nI (p + 1 + (dcs a).length + 2 + 1 + (dcs c).length), nI 0, ea, n2, addD d V a q c) := by
  have hE := T.1
  have q2 := m2.1
  rw [List.length_append] at q2
  have q2 : p + 1 + (dcs a).length + 2 + (1 + (dcs c).length) ≤ E := q2
  have t2 : tx (p + 1 + (dcs a).length + 2) = 32 := m2.app.1.at T (j := 0) (Nat.succ_pos _) rfl (by decide)
  have e1 : chB E tx dgB (p + 1 + (dcs a).length) = false := by rw [chB_in (by omega), t0]; decide
  have e2 : chB E tx ltB (p + 1 + (dcs a).length + 2) = false := by rw [chB_in (by omega), t2]; decide
  have g1 := r_num T (lo := 0) (hi := 9) ns ea (Nat.zero_le _) ha (by decide) m1 e1
  have g2 := r_kind T ea (p := p + 1 + (dcs a).length) (by omega) t0 t1 hq e2
  have g3 := r_num T (lo := 0) (hi := 999) (nI (p + 1)) ea (Nat.zero_le _) hc (by decide) m2 he
  have hadd := r_add (a := a) (q := q) (c := c) hV d7
  refine ⟨nI (p + 1 + (dcs a).length + 2 + 1), ?_⟩
  unfold X7_readViewer X7_readViewer_J19 X7_isGood
  rw [q_ld (i := (7 : Int32)) d 7 _ rfl (by omega) (by omega), d7, if_neg (show ¬ nI V = (20 : Int32) from fun z => by have := (nI_eq (b := 20) (by omega) (by decide)).mp z; omega), show (0 : Int32) = nI 0 from rfl, show (9 : Int32) = nI 9 from rfl, show (999 : Int32) = nI 999 from rfl, q_b5 g1, q_b4 g2, q_b5 g3, if_pos rfl, q_bn1, if_neg (show ¬ (1 : Int32) = nI 0 by decide), q_b1 hadd]
end XR
