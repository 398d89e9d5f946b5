/-! NUMBERS: the reference's reader: the statement of the price -/
section XR
variable {E : Nat} {bytes buffer : Nat → Int32} {tx : Nat → Nat}
theorem r_stPrice (T : Txt E bytes buffer tx) {K V : Nat → Nat} {N : Nat → Int32} {q : Nat} (ea ns seen told : Int32) (hG : ∀ i, K i < 6 ∧ V i < 10000 ∧ (K i ≠ 0 → V i < 4)) (hN : ∀ i, N i = nI (V i)) (w : wfT K 3 1) {d : Nat → Int32} (d9 : d 9 = nI 0) (hseen : ¬ ((seen >>> ((2 : Int32) &&& 31)) &&& (1 : Int32)) = 1) (hm : AtT E tx q ([112, 114, 105, 99, 101, 32] ++ ndT K V 3 1 0 ++ [32, 59])) :
    ∃ n2, X7_statement (nI E) (nI q) (nI 0) ea ns (nI 0) seen told buffer d = some (nI (q + 6 + (ndT K V 3 1 0).length + 2), nI 0, ea, n2, nI 0, seen ||| ((1 : Int32) <<< ((2 : Int32) &&& 31)), told, emL (upd d 8 (1 : Int32)) 0 (pfx K N 3 1)) := by
  have hE := T.1
  obtain ⟨m12, m3⟩ := hm.app
  obtain ⟨m1, m2⟩ := m12.app
  rw [List.length_append] at m3
  have m2 : AtT E tx (q + 6) (ndT K V 3 1 0) := m2
  have m3 : AtT E tx (q + (6 + (ndT K V 3 1 0).length)) [32, 59] := m3
  obtain ⟨s, es⟩ : ∃ z, z = ndT K V 3 1 0 := ⟨_, rfl⟩
  have nsp : NoSp s := by rw [es]; exact noSp_ndT hG 3 1 0 w
  obtain ⟨-, -, aS⟩ := tree_all T (ea := ea) hG hN 3 1 w 5 0 (by decide) (by decide)
  obtain ⟨c, c1, hS⟩ := aS 0 (by decide)
  rw [← es] at m2 m3 hS ⊢
  have l3 := m3.1
  have l3 : q + (6 + s.length) + 2 ≤ E := l3
  have t0 : tx q = 112 := m1.at T (j := 0) (by decide) rfl (by decide)
  have t1 : tx (q + 1) = 114 := m1.at T (j := 1) (by decide) rfl (by decide)
  have t5 : tx (q + 5) = 32 := m1.at T (j := 5) (by decide) rfl (by decide)
  have e0 : tx (q + (6 + s.length)) = 32 := m3.at T (j := 0) (by decide) rfl (by decide)
  have e9 : tx (q + (6 + s.length) + 1) = 59 := m3.at T (j := 1) (by decide) rfl (by decide)
  have mp : AtT E tx q [112, 114, 105, 99, 101] := ⟨by show q + 5 ≤ E; omega, fun j hj => by
    have hj : j < 5 := hj
    rw [m1.2 j (by show j < 6; omega)]
    rcases (show j = 0 ∨ j = 1 ∨ j = 2 ∨ j = 3 ∨ j = 4 by omega) with e | e | e | e | e <;> subst e <;> rfl⟩
  have ha := t_ahead T (p := q) (by omega)
  rw [sk_at (show tx q ≠ 32 by omega)] at ha
  have h00 : ∀ j, j < 1 → tx (q + j) = wn_plane j := fun j hj => by
    cases j with
    | zero => exact t0
    | succ j => omega
  have g1 := r_noWord w_plane T (p := q) (q := q) (m := 1) (by omega) (sk_at (by omega)) (by decide) (by omega) h00 (fun _ => by rw [t1]; decide)
  have g2 := r_no0 w_hole T (q := q) (by omega) (by omega) (by decide) (by rw [t0]; decide)
  have g3 := r_no0 w_reach T (q := q) (by omega) (by omega) (by decide) (by rw [t0]; decide)
  have g4 := r_no0 w_length T (q := q) (by omega) (by omega) (by decide) (by rw [t0]; decide)
  have g5 := r_no0 w_viewer T (q := q) (by omega) (by omega) (by decide) (by rw [t0]; decide)
  have g6 := r_w w_price T rfl (show tx q ≠ 32 by omega) mp (fun j hj => by rcases (show j = 0 ∨ j = 1 ∨ j = 2 ∨ j = 3 ∨ j = 4 by omega) with e | e | e | e | e <;> subst e <;> rfl) (w5_not T (show q + 5 < E by omega) t5)
  have n6 := nsp.at T m2
  have ek : q + 6 + s.length = q + (6 + s.length) := by omega
  have s9 : sk E tx (q + 6 + s.length) = q + (6 + s.length) + 1 := by rw [ek]; exact sk_one (by omega) e0 (by omega)
  have hpl := pfx_len K N 3 1
  obtain ⟨n2, g7⟩ := hS.end_ T (by omega) (p := q + 5) (q := q + 6) (L := 0) (ns := ns) (d := upd d 8 (1 : Int32)) (by omega) (sk_one (by omega) t5 n6) m2 (by rw [ek]; exact Stop.of T (by omega) e0 (by decide) (by decide)) (NoMul.of T s9 (by omega) e9 (by decide) (by decide)) (NoAdd.of T s9 (by omega) e9 (by decide) (by decide)) (by rw [pk_un (by decide)]; exact d9) (by omega)
  rw [s9] at g7
  refine ⟨n2, ?_⟩
  unfold X7_statement X7_once X7_once_J19
  rw [q_b2 ha, q_b2 g1, if_pos (show nI 0 = 0 from rfl), q_b2 g2, if_pos (show nI 0 = 0 from rfl), q_b2 g3, if_pos (show nI 0 = 0 from rfl), q_b2 g4, if_pos (show nI 0 = 0 from rfl), q_b2 g5, if_pos (show nI 0 = 0 from rfl), q_b2 g6, if_neg (show ¬ nI 1 = 0 by decide), if_neg hseen, s_nm, q_b3 rfl, q_st _ 8 _ (show (8 : Int32) = nI 8 from rfl) (by decide) (by decide), q_b6 (show X7_readSum 6 (nI E) (nI (q + 5)) (nI 0) ea ns (nI 0) buffer (upd d (8 : Int32).toNatClampNeg (1 : Int32)) = _ from g7)]
  rw [show q + 6 + s.length + 2 = q + (6 + s.length) + 1 + 1 by omega]
  exact r_end T ea n2 (nI 0) _ told _ (by omega) e9
end XR
