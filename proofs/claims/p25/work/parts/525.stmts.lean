/-! NUMBERS: the reference's reader: the statements of a text -/
section XR
variable {E : Nat} {bytes buffer : Nat → Int32} {tx : Nat → Nat}
theorem r_no0 {ws : List Int32} {len : Nat} {wn : Nat → Nat} (W : Word ws len wn) (T : Txt E bytes buffer tx) {q : Nat} (hq : q ≤ E) (h32 : tx q ≠ 32) (hl : 0 < len) (hne : tx q ≠ wn 0) : X7_takeWord ws (nI E) (nI q) (nI 0) buffer = some (nI 0, nI q) :=
  r_noWord W T (m := 0) hq (sk_at h32) hl hq (fun j hj => absurd hj (Nat.not_lt_zero j)) (fun _ => hne)
theorem r_w {ws : List Int32} {len : Nat} {wn : Nat → Nat} (W : Word ws len wn) (T : Txt E bytes buffer tx) {q : Nat} (hl : ws.length = len) (h32 : tx q ≠ 32) (hm : AtT E tx q ws) (hw : ∀ j, j < len → ws.getD j 0 = nI (wn j)) (he : chB E tx ltB (q + len) = false) : X7_takeWord ws (nI E) (nI q) (nI 0) buffer = some (nI 1, nI (q + len)) := by
  have h1 := hm.1
  rw [hl] at h1
  exact r_word W T (by omega) (sk_at h32) h1 (fun j hj => hm.at T (by omega) (hw j hj) (by have := (W.2.2 j hj).2.2; omega)) he
theorem r_end (T : Txt E bytes buffer tx) {p : Nat} (ea ns nest seen told : Int32) (d : Nat → Int32) (hp : p < E) (h59 : tx p = 59) : X7_statement_J160 (nI E) buffer (nI p) (nI 0) ea ns nest seen told d = some (nI (p + 1), nI 0, ea, ns, nest, seen, told, d) := by
  unfold X7_statement_J160
  rw [show (59 : Int32) = nI 59 from rfl, q_b3 (r_expect T ea (Nat.le_of_lt hp) (sk_at (by omega)) hp h59)]
theorem w5_not (T : Txt E bytes buffer tx) {p : Nat} (hp : p < E) (h32 : tx p = 32) : chB E tx ltB p = false := by rw [chB_in hp, h32]; decide
theorem r_stPlane (T : Txt E bytes buffer tx) {w h n pl q : Nat} (ea ns nest seen : Int32) (w0 : 0 < w) (hw : w ≤ 12) (h0 : 0 < h) (hh : h ≤ 8) (hn0 : 0 < n) (hn : n ≤ 5) (hpl : pl < n) (hm : AtT E tx q [112, 108, 97, 110, 101]) (hE : q + 5 + (w + 1) * h < E) (h59 : tx (q + 5 + (w + 1) * h) = 59) (hsp : ∀ y, y < h → tx (q + 5 + (w + 1) * y) = 32) (hl : ∀ y, y < h → ∀ k, k < w → lnB (tx (q + 5 + (w + 1) * y + 1 + k)) = true) (hb46 : ∀ y, y < h → ∀ k, k < w → tx (q + 5 + (w + 1) * y + 1 + k) = 46 → pl ≠ n - 1) {d : Nat → Int32} (d0 : d 0 = nI w) (d1 : d 1 = nI h) (d2 : d 2 = nI n) :
    X7_statement (nI E) (nI q) (nI 0) ea ns nest seen (nI pl) buffer d = some (nI (q + 5 + (w + 1) * h + 1), nI 0, ea, ns, nest, seen, nI (pl + 1), plD d w pl (q + 5) tx h) := by
  have t0 : tx q = 112 := hm.at T (j := 0) (by decide) rfl (by decide)
  have s0 := hsp 0 h0
  have ha := t_ahead T (p := q) (by omega)
  rw [sk_at (show tx q ≠ 32 by omega)] at ha
  have e1 := r_w w_plane T rfl (show tx q ≠ 32 by omega) hm (fun j hj => by rcases (show j = 0 ∨ j = 1 ∨ j = 2 ∨ j = 3 ∨ j = 4 by omega) with e | e | e | e | e <;> subst e <;> rfl) (w5_not T (show q + 5 < E by omega) (by rw [Nat.mul_zero, Nat.add_zero] at s0; exact s0))
  have e2 := r_plane T ea (nI q) w0 hw hh hn0 hn hpl (show q + 5 + (w + 1) * h ≤ E by omega) hsp hl (by rw [chB_in hE, h59]; decide) hb46 d0 d1 d2
  unfold X7_statement
  rw [q_b2 ha, q_b2 e1, if_neg (show ¬ nI 1 = 0 by decide), q_b5 e2]
  exact r_end T ea ns nest seen _ _ hE h59
theorem r_stHole (T : Txt E bytes buffer tx) {w h c q x y : Nat} (ea ns nest seen told : Int32) (hw : w ≤ 12) (hh : h ≤ 8) (hc : c < 4) (hx : x < w) (hy : y < h) {d : Nat → Int32} (d0 : d 0 = nI w) (d1 : d 1 = nI h) (d3 : d 3 = nI c) (hm : AtT E tx q [104, 111, 108, 101]) (m1 : AtT E tx (q + 4) ([32] ++ dcs x)) (m2 : AtT E tx (q + 4 + 1 + (dcs x).length) ([32] ++ dcs y)) (hE : q + 4 + 1 + (dcs x).length + 1 + (dcs y).length < E) (h59 : tx (q + 4 + 1 + (dcs x).length + 1 + (dcs y).length) = 59) :
    ∃ n2, X7_statement (nI E) (nI q) (nI 0) ea ns nest seen told buffer d = some (nI (q + 4 + 1 + (dcs x).length + 1 + (dcs y).length + 1), nI 0, ea, n2, nest, seen, told, hlD d c x y) := by
  have t0 : tx q = 104 := hm.at T (j := 0) (by decide) rfl (by decide)
  have t4 : tx (q + 4) = 32 := m1.app.1.at T (j := 0) (Nat.succ_pos _) rfl (by decide)
  have ha := t_ahead T (p := q) (by omega)
  rw [sk_at (show tx q ≠ 32 by omega)] at ha
  have e1 := r_no0 w_plane T (q := q) (by omega) (by omega) (by decide) (by rw [t0]; decide)
  have e2 := r_w w_hole T rfl (show tx q ≠ 32 by omega) hm (fun j hj => by rcases (show j = 0 ∨ j = 1 ∨ j = 2 ∨ j = 3 by omega) with e | e | e | e <;> subst e <;> rfl) (w5_not T (show q + 4 < E by omega) t4)
  obtain ⟨n2, e3⟩ := r_hole T ns ea (nI q) hw hh hc hx hy d0 d1 d3 m1 m2 (by rw [chB_in hE, h59]; decide)
  refine ⟨n2, ?_⟩
  unfold X7_statement
  rw [q_b2 ha, q_b2 e1, if_pos (show nI 0 = 0 from rfl), q_b2 e2, if_neg (show ¬ nI 1 = 0 by decide), q_b5 e3]
  exact r_end T ea n2 nest seen told _ hE h59
theorem r_stViewer (T : Txt E bytes buffer tx) {V q a kd c : Nat} (ea ns nest seen told : Int32) (hV : V < 20) (h9 : a ≤ 9) (hk : kd < 26) (hc : c ≤ 999) {d : Nat → Int32} (d7 : d 7 = nI V) (hm : AtT E tx q [118, 105, 101, 119, 101, 114]) (m1 : AtT E tx (q + 6) ([32] ++ dcs a)) (t0 : tx (q + 6 + 1 + (dcs a).length) = 32) (t1 : tx (q + 6 + 1 + (dcs a).length + 1) = 97 + kd) (m2 : AtT E tx (q + 6 + 1 + (dcs a).length + 2) ([32] ++ dcs c)) (hE : q + 6 + 1 + (dcs a).length + 2 + 1 + (dcs c).length < E) (h59 : tx (q + 6 + 1 + (dcs a).length + 2 + 1 + (dcs c).length) = 59) :
    ∃ n2, X7_statement (nI E) (nI q) (nI 0) ea ns nest seen told buffer d = some (nI (q + 6 + 1 + (dcs a).length + 2 + 1 + (dcs c).length + 1), nI 0, ea, n2, nest, seen, told, addD d V a kd c) := by
  have z0 : tx q = 118 := hm.at T (j := 0) (by decide) rfl (by decide)
  have t4 : tx (q + 6) = 32 := m1.app.1.at T (j := 0) (Nat.succ_pos _) rfl (by decide)
  have ha := t_ahead T (p := q) (by omega)
  rw [sk_at (show tx q ≠ 32 by omega)] at ha
  have e1 := r_no0 w_plane T (q := q) (by omega) (by omega) (by decide) (by rw [z0]; decide)
  have e2 := r_no0 w_hole T (q := q) (by omega) (by omega) (by decide) (by rw [z0]; decide)
  have e3 := r_no0 w_reach T (q := q) (by omega) (by omega) (by decide) (by rw [z0]; decide)
  have e4 := r_no0 w_length T (q := q) (by omega) (by omega) (by decide) (by rw [z0]; decide)
  have e5 := r_w w_viewer T rfl (show tx q ≠ 32 by omega) hm (fun j hj => by rcases (show j = 0 ∨ j = 1 ∨ j = 2 ∨ j = 3 ∨ j = 4 ∨ j = 5 by omega) with e | e | e | e | e | e <;> subst e <;> rfl) (w5_not T (show q + 6 < E by omega) t4)
  obtain ⟨n2, e6⟩ := r_viewer T ns ea (nI q) hV h9 hk hc d7 m1 t0 t1 m2 (by rw [chB_in hE, h59]; decide)
  refine ⟨n2, ?_⟩
  unfold X7_statement
  rw [q_b2 ha, q_b2 e1, if_pos (show nI 0 = 0 from rfl), q_b2 e2, if_pos (show nI 0 = 0 from rfl), q_b2 e3, if_pos (show nI 0 = 0 from rfl), q_b2 e4, if_pos (show nI 0 = 0 from rfl), q_b2 e5, if_neg (show ¬ nI 1 = 0 by decide), q_b5 e6]
  exact r_end T ea n2 nest seen told _ hE h59
theorem r_stReach (T : Txt E bytes buffer tx) {q a : Nat} (ea ns nest seen told : Int32) (h9 : a ≤ 9) {d : Nat → Int32} (hseen : ¬ ((seen >>> ((0 : Int32) &&& 31)) &&& (1 : Int32)) = 1) (hm : AtT E tx q [114, 101, 97, 99, 104]) (m1 : AtT E tx (q + 5) ([32] ++ dcs a)) (hE : q + 5 + 1 + (dcs a).length < E) (h59 : tx (q + 5 + 1 + (dcs a).length) = 59) :
    ∃ n2, X7_statement (nI E) (nI q) (nI 0) ea ns nest seen told buffer d = some (nI (q + 5 + 1 + (dcs a).length + 1), nI 0, ea, n2, nest, seen ||| ((1 : Int32) <<< ((0 : Int32) &&& 31)), told, upd d 4 (nI a)) := by
  have z0 : tx q = 114 := hm.at T (j := 0) (by decide) rfl (by decide)
  have t4 : tx (q + 5) = 32 := m1.app.1.at T (j := 0) (Nat.succ_pos _) rfl (by decide)
  have ha := t_ahead T (p := q) (by omega)
  rw [sk_at (show tx q ≠ 32 by omega)] at ha
  have e1 := r_no0 w_plane T (q := q) (by omega) (by omega) (by decide) (by rw [z0]; decide)
  have e2 := r_no0 w_hole T (q := q) (by omega) (by omega) (by decide) (by rw [z0]; decide)
  have e5 := r_w w_reach T rfl (show tx q ≠ 32 by omega) hm (fun j hj => by rcases (show j = 0 ∨ j = 1 ∨ j = 2 ∨ j = 3 ∨ j = 4 by omega) with e | e | e | e | e <;> subst e <;> rfl) (w5_not T (show q + 5 < E by omega) t4)
  have e6 : X7_number (nI E) (nI (q + 5)) (nI 0) ea ns buffer (0 : Int32) (9 : Int32) = _ := r_num T (lo := 0) (hi := 9) ns ea (Nat.zero_le _) h9 (by decide) m1 (by rw [chB_in hE, h59]; decide)
  refine ⟨nI (q + 5 + 1), ?_⟩
  unfold X7_statement X7_once X7_once_J19
  rw [q_b2 ha, q_b2 e1, if_pos (show nI 0 = 0 from rfl), q_b2 e2, if_pos (show nI 0 = 0 from rfl), q_b2 e5, if_neg (show ¬ nI 1 = 0 by decide), if_neg hseen, s_nm, q_b3 rfl, q_b5 e6, q_st _ 4 _ (show (4 : Int32) = nI 4 from rfl) (by decide) (by decide)]
  exact r_end T ea _ nest _ told _ hE h59
theorem r_stLength (T : Txt E bytes buffer tx) {q a : Nat} (ea ns nest seen told : Int32) (h1 : 1 ≤ a) (h9 : a ≤ 20) {d : Nat → Int32} (hseen : ¬ ((seen >>> ((1 : Int32) &&& 31)) &&& (1 : Int32)) = 1) (hm : AtT E tx q [108, 101, 110, 103, 116, 104]) (m1 : AtT E tx (q + 6) ([32] ++ dcs a)) (hE : q + 6 + 1 + (dcs a).length < E) (h59 : tx (q + 6 + 1 + (dcs a).length) = 59) :
    ∃ n2, X7_statement (nI E) (nI q) (nI 0) ea ns nest seen told buffer d = some (nI (q + 6 + 1 + (dcs a).length + 1), nI 0, ea, n2, nest, seen ||| ((1 : Int32) <<< ((1 : Int32) &&& 31)), told, upd d 5 (nI a)) := by
  have z0 : tx q = 108 := hm.at T (j := 0) (by decide) rfl (by decide)
  have t4 : tx (q + 6) = 32 := m1.app.1.at T (j := 0) (Nat.succ_pos _) rfl (by decide)
  have ha := t_ahead T (p := q) (by omega)
  rw [sk_at (show tx q ≠ 32 by omega)] at ha
  have e1 := r_no0 w_plane T (q := q) (by omega) (by omega) (by decide) (by rw [z0]; decide)
  have e2 := r_no0 w_hole T (q := q) (by omega) (by omega) (by decide) (by rw [z0]; decide)
  have e3 := r_no0 w_reach T (q := q) (by omega) (by omega) (by decide) (by rw [z0]; decide)
  have e5 := r_w w_length T rfl (show tx q ≠ 32 by omega) hm (fun j hj => by rcases (show j = 0 ∨ j = 1 ∨ j = 2 ∨ j = 3 ∨ j = 4 ∨ j = 5 by omega) with e | e | e | e | e | e <;> subst e <;> rfl) (w5_not T (show q + 6 < E by omega) t4)
  have e6 : X7_number (nI E) (nI (q + 6)) (nI 0) ea ns buffer (1 : Int32) (20 : Int32) = _ := r_num T (lo := 1) (hi := 20) ns ea h1 h9 (by decide) m1 (by rw [chB_in hE, h59]; decide)
  refine ⟨nI (q + 6 + 1), ?_⟩
  unfold X7_statement X7_once X7_once_J19
  rw [q_b2 ha, q_b2 e1, if_pos (show nI 0 = 0 from rfl), q_b2 e2, if_pos (show nI 0 = 0 from rfl), q_b2 e3, if_pos (show nI 0 = 0 from rfl), q_b2 e5, if_neg (show ¬ nI 1 = 0 by decide), if_neg hseen, s_nm, q_b3 rfl, q_b5 e6, q_st _ 5 _ (show (5 : Int32) = nI 5 from rfl) (by decide) (by decide)]
  exact r_end T ea _ nest _ told _ hE h59
end XR
