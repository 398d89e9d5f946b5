/-! NUMBERS: a text of randomShow collected and loaded (st4.py) -/
theorem bt66_i {A0 A1 A2 A3 A4 A5 A6 A7 A8 A9 A10 A11 A12 A13 A14 A15 A16 A17 A18 A19 A20 A21 A22 A23 A24 A25 A26 A27 A28 A29 A30 A31 A32 A33 A34 A35 A36 A37 A38 A39 A40 A41 A42 A43 A44 A45 A46 A47 A48 A49 A50 A51 A52 A53 A54 A55 A56 A57 A58 A59 A60 A61 A62 A63 A64 A65 β : Type} {x : Option (Sum Nat (A0 × A1 × A2 × A3 × A4 × A5 × A6 × A7 × A8 × A9 × A10 × A11 × A12 × A13 × A14 × A15 × A16 × A17 × A18 × A19 × A20 × A21 × A22 × A23 × A24 × A25 × A26 × A27 × A28 × A29 × A30 × A31 × A32 × A33 × A34 × A35 × A36 × A37 × A38 × A39 × A40 × A41 × A42 × A43 × A44 × A45 × A46 × A47 × A48 × A49 × A50 × A51 × A52 × A53 × A54 × A55 × A56 × A57 × A58 × A59 × A60 × A61 × A62 × A63 × A64 × A65))} {a0 : A0} {a1 : A1} {a2 : A2} {a3 : A3} {a4 : A4} {a5 : A5} {a6 : A6} {a7 : A7} {a8 : A8} {a9 : A9} {a10 : A10} {a11 : A11} {a12 : A12} {a13 : A13} {a14 : A14} {a15 : A15} {a16 : A16} {a17 : A17} {a18 : A18} {a19 : A19} {a20 : A20} {a21 : A21} {a22 : A22} {a23 : A23} {a24 : A24} {a25 : A25} {a26 : A26} {a27 : A27} {a28 : A28} {a29 : A29} {a30 : A30} {a31 : A31} {a32 : A32} {a33 : A33} {a34 : A34} {a35 : A35} {a36 : A36} {a37 : A37} {a38 : A38} {a39 : A39} {a40 : A40} {a41 : A41} {a42 : A42} {a43 : A43} {a44 : A44} {a45 : A45} {a46 : A46} {a47 : A47} {a48 : A48} {a49 : A49} {a50 : A50} {a51 : A51} {a52 : A52} {a53 : A53} {a54 : A54} {a55 : A55} {a56 : A56} {a57 : A57} {a58 : A58} {a59 : A59} {a60 : A60} {a61 : A61} {a62 : A62} {a63 : A63} {a64 : A64} {a65 : A65} {k : A0 → A1 → A2 → A3 → A4 → A5 → A6 → A7 → A8 → A9 → A10 → A11 → A12 → A13 → A14 → A15 → A16 → A17 → A18 → A19 → A20 → A21 → A22 → A23 → A24 → A25 → A26 → A27 → A28 → A29 → A30 → A31 → A32 → A33 → A34 → A35 → A36 → A37 → A38 → A39 → A40 → A41 → A42 → A43 → A44 → A45 → A46 → A47 → A48 → A49 → A50 → A51 → A52 → A53 → A54 → A55 → A56 → A57 → A58 → A59 → A60 → A61 → A62 → A63 → A64 → A65 → Option β} (h : x = some (.inr (a0, a1, a2, a3, a4, a5, a6, a7, a8, a9, a10, a11, a12, a13, a14, a15, a16, a17, a18, a19, a20, a21, a22, a23, a24, a25, a26, a27, a28, a29, a30, a31, a32, a33, a34, a35, a36, a37, a38, a39, a40, a41, a42, a43, a44, a45, a46, a47, a48, a49, a50, a51, a52, a53, a54, a55, a56, a57, a58, a59, a60, a61, a62, a63, a64, a65))) : bt66 x k = k a0 a1 a2 a3 a4 a5 a6 a7 a8 a9 a10 a11 a12 a13 a14 a15 a16 a17 a18 a19 a20 a21 a22 a23 a24 a25 a26 a27 a28 a29 a30 a31 a32 a33 a34 a35 a36 a37 a38 a39 a40 a41 a42 a43 a44 a45 a46 a47 a48 a49 a50 a51 a52 a53 a54 a55 a56 a57 a58 a59 a60 a61 a62 a63 a64 a65 := by
  subst h; rfl
theorem tb_c {c : Nat} (h : c < 128) : TB (nI c) (nI c) := ⟨c, by omega, rfl, by rw [show (255 : Int32) = nI 255 from rfl, pk_andN (by omega) (m := nI 255) 8 (by decide), Nat.mod_eq_of_lt (show c < 2 ^ 8 by omega)], fun _ => rfl, fun z => absurd z (by omega)⟩
/-- the last, unfinished twenty goes too -/
theorem tx_full {tx : List Int32} {f : Int32} {b B : Nat → Int32} (T : TxR tx f b B) : ∃ (F : Nat) (b2 B2 : Nat → Int32), tx.length ≤ F ∧ F ≤ 800 ∧ (∀ j, j < F → b2 j = nI (chN tx j)) ∧ ((tx.length - tx.length / 20 * 20 = 0 ∧ f = nI F ∧ b = b2 ∧ B2 = B) ∨ (0 < tx.length - tx.length / 20 * 20 ∧ L_flush 8 f b B = some (nI F, b2, B2))) := by
  obtain ⟨ha, hl, hf, hb, h0, hB⟩ := T
  by_cases c : tx.length - tx.length / 20 * 20 = 0
  · exact ⟨tx.length / 20 * 20, b, B, by omega, by omega, hb, Or.inl ⟨c, hf, rfl, rfl⟩⟩
  · obtain ⟨b2, g1, g2⟩ := tx_flush ha (m := tx.length / 20 * 20) (by omega) hb hB
    exact ⟨tx.length / 20 * 20 + 20, b2, _, by omega, by omega, g2, Or.inr ⟨by omega, by rw [hf]; exact g1⟩⟩
/-- the reference with the text in its buffer -/
def rfB (rf : Rf) (F : Nat) (tx : List Int32) : Rf := mkRf (Rf.thrown rf) (nI F) (Rf.textLength rf) (Rf.position rf) (Rf.error rf) (Rf.errorAt rf) (Rf.errorOffset rf) (Rf.undoDepth rf) (Rf.numberStart rf) (Rf.nesting rf) (Rf.seen rf) (Rf.toldPlanes rf) (fun j => nI (chN tx j)) (Rf.data rf) (Rf.draft rf) (Rf.aside rf) (Rf.h0 rf) (Rf.h1 rf) (Rf.h2 rf) (Rf.h3 rf) (Rf.h4 rf) (Rf.h5 rf) (Rf.h6 rf) (Rf.h7 rf) (Rf.facts rf) (Rf.stack rf)
theorem RAll.text {st : St} {rf : Rf} (R : RAll st rf) {tx : List Int32} (ha : ascS tx) {F : Nat} {b2 : Nat → Int32} (hF : F ≤ 800) (hb : ∀ j, j < F → b2 j = nI (chN tx j)) : RAll (stW st (nI F) b2) (rfB rf F tx) :=
  ⟨R.1, R.2.1, ⟨F, rfl, rfl, hF, fun j hj => by
    show TB (b2 j) (nI (chN tx j))
    rw [hb j hj]; exact tb_c (chN_lt ha j)⟩, R.2.2.2⟩
theorem txt_at {tx : List Int32} (ha : ascS tx) (hl : tx.length ≤ 800) {b2 : Nat → Int32} (hb : ∀ j, j < tx.length → b2 j = nI (chN tx j)) : Txt tx.length b2 (fun j => nI (chN tx j)) (chN tx) ∧ AtT tx.length (chN tx) 0 tx := by
  refine ⟨⟨hl, fun j hj => ?_⟩, ⟨by omega, fun j hj => ?_⟩⟩
  · have hc := chN_lt ha j
    obtain ⟨t, h1, h2, h3, h4, h5⟩ := tb_c hc
    rw [hb j hj]
    obtain rfl : chN tx j = t := (nI_eq (by omega) (by omega)).mp h2
    exact ⟨h1, rfl, h3, h4, h5⟩
  · rw [Nat.zero_add]; exact (chN_at ha j).symm
set_option maxHeartbeats 4000000 in
set_option maxRecDepth 100000 in
theorem st_load : ∀ (st : St) (G : LG) (hs : Nat → LG) (k : Nat) (sd : Int32) (f : Int32) (b B : Nat → Int32), RQ st G hs k → TxR (zT sd) f b B → ∃ st2 B2, LTx (stW st f b) B (nI (zG sd)) st2 B2 ∧ RQ st2 (zL sd) (hpush G hs) (min (k + 1) 8) := by
  intro st G hs k sd f b B hR hT
  obtain ⟨rf, RA, D, hu, hk8, hfil, hh⟩ := hR
  have ha := hT.1
  have hl := hT.2.1
  have hB0 := hT.2.2.2.2.1
  obtain ⟨F, b2, B2, hF1, hF2, hb2, hcase⟩ := tx_full hT
  obtain ⟨hTx, hAt⟩ := txt_at ha (Nat.le_trans hl (by decide)) (fun j hj => hb2 j (by omega))
  obtain ⟨z1, z2, z3, z4, z5, z6, z7, z8, z9, y1, y2, q0, q1, q2, q3, q4, q5, q6, q7, hz, hDG, hq⟩ := r_loadZ hTx hAt rfl hF1 hF2 hk8 (Rf.thrown rf) (Rf.textLength rf) (Rf.position rf) (Rf.error rf) (Rf.errorAt rf) (Rf.errorOffset rf) (Rf.numberStart rf) (Rf.nesting rf) (Rf.seen rf) (Rf.toldPlanes rf) (Rf.data rf) (Rf.draft rf) (Rf.h0 rf) (Rf.h1 rf) (Rf.h2 rf) (Rf.h3 rf) (Rf.h4 rf) (Rf.h5 rf) (Rf.h6 rf) (Rf.h7 rf)
  rw [← hu] at hz
  obtain ⟨E, eE⟩ : ∃ z, z = (zT sd).length := ⟨_, rfl⟩
  rw [← eE] at hz hF1 hB0 hcase hl
  obtain ⟨np, hnp, ⟨v9, c1, c2, c3, c4, c5, c6, c7, c8, c9, c10, c11, c12, c13, c14, c15, c16, c17, c18, c19, c20, c21, c22, c23, c24, c25, c26, c27, c28, c29, c30, c31, c32, c33, c34, c35, c36, c37, c38, c39, c40, c41, c42, c43, c44, c45, c46, c47, c48, c49, c50, c51, c52, c53, c54, c55, c56, c57, c58, c59, c60, c61, c62, c63, c64, c65, d2, d3, d4, d5, d6, d7, d8, d9, d10, d11, d12, d13, d14, d15, d16, d17, d18, d19, d20, d21, d22, hX, hY, hRA⟩ | ⟨e9, t9, v9, ⟨-, ht9⟩, -, hY⟩⟩ := f_load (RA.text ha hF2 hb2) (nI E) (Rf.thrown rf)
  · have e := hY.symm.trans hz
    simp only [Option.some.injEq, Prod.mk.injEq] at e
    obtain ⟨rfl, -, rfl, rfl, rfl, rfl, rfl, rfl, rfl, rfl, rfl, rfl, rfl, rfl, rfl, rfl, rfl, rfl, rfl, rfl, rfl, rfl, rfl⟩ := e
    have hfl := hRA.2.2.1
    obtain ⟨f9, hf9, hf8, -⟩ := hfl
    have e72 : nI E - nI E / (20 : Int32) * (20 : Int32) = nI (E - E / 20 * 20) := by
      rw [show (20 : Int32) = nI 20 from rfl, pk_div (by omega) (by decide) (by decide), pk_mul, pk_sub (by omega)]
    refine ⟨_, upd B2 0 (0 : Int32), ⟨np, c1, c2, c3, c4, c5, c6, c7, c8, c9, c10, c11, c12, c13, c14, c15, c16, c17, c18, c19, c20, c21, c22, c23, c24, c25, c26, c27, c28, b2, c29, c30, c31, c32, c33, c34, c35, c36, c37, c38, c39, c40, c41, c42, c43, c44, c45, c46, c47, c48, c49, c50, c51, c52, c53, c54, c55, c56, c57, c58, c59, c60, c61, c62, c63, c64, c65, _, hnp, ?_, rfl, rfl⟩, ⟨_, hRA, hDG, rfl, Nat.min_le_right _ _, ?_, hist_push hk8 hq D hh⟩⟩
    rotate_left
    · exact hf9.trans hf8.symm
    · unfold L_loadText
      refine (q_ld (i := (0 : Int32)) B 0 _ rfl (by decide) (by decide)).trans ?_
      rw [hB0]
      refine (q_nm _ _).trans ?_
      rcases hcase with ⟨c, hf, hb, hB⟩ | ⟨c, hfl⟩
      · refine (if_pos (by rw [e72, c]; decide)).trans ?_
        unfold L_loadText_J16
        refine (q_st _ 0 _ rfl (by decide) (by decide)).trans ?_
        subst hf hb hB
        exact bt66_i hX
      · refine (if_neg (by rw [e72]; exact nI_nle c (by omega))).trans ?_
        refine (q_b3 hfl).trans ?_
        unfold L_loadText_J16
        refine (q_st _ 0 _ rfl (by decide) (by decide)).trans ?_
        exact bt66_i hX
  · have e := hY.symm.trans hz
    simp only [Option.some.injEq, Prod.mk.injEq] at e
    exact absurd ((nI_eq (by omega) (by decide)).mp e.2.1) (by omega)
