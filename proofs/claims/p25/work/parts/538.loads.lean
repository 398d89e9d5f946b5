/-! NUMBERS: the reference's load of a text of randomShow -/
section XR
variable {E : Nat} {bytes buffer : Nat → Int32} {tx : Nat → Nat}
theorem r_loadZ (T : Txt E bytes buffer tx) {sd : Int32} (m : AtT E tx 0 (zT sd)) (hEz : E = (zT sd).length) {f u : Nat} (hf : E ≤ f) (hf8 : f ≤ 800) (hu : u ≤ 8) (o tl pos er ea eo ns ne sn to : Int32) (data draft r0 r1 r2 r3 r4 r5 r6 r7 : Nat → Int32) : ∃ (b1 b2 b3 b4 b5 b6 b7 b8 b9 : Int32) (d1 dd q0 q1 q2 q3 q4 q5 q6 q7 : Nat → Int32), X7_load o (nI f) tl pos er ea eo (nI u) ns ne sn to buffer data draft r0 r1 r2 r3 r4 r5 r6 r7 (nI E) = some (nI (zG sd), nI 0, nI 0, b1, b2, b3, b4, b5, nI (min (u + 1) 8), b6, b7, b8, b9, d1, dd, q0, q1, q2, q3, q4, q5, q6, q7) ∧ DG d1 (zL sd) ∧ ∀ k, k < min (u + 1) 8 → ∀ j, j < 2243 → hsel q0 q1 q2 q3 q4 q5 q6 q7 k j = (if k + 1 = min (u + 1) 8 then data j else hsel r0 r1 r2 r3 r4 r5 r6 r7 (if u = 8 then k + 1 else k) j) := by
  have hE := T.1
  have hw : zW sd ≤ 12 := by unfold zW; omega
  have hh : zH sd ≤ 8 := by unfold zH; omega
  have hn : zN sd ≤ 5 := by unfold zN; omega
  have hO : zO sd ≤ 4 := by unfold zO; omega
  obtain ⟨e, ⟨g0, gN⟩, gB⟩ := rd_text T m
  obtain ⟨p1, p2, n1, n2, n3, g1, g2, g3, g4⟩ := gN ns (-1 : Int32)
  obtain ⟨d0, l1, l2⟩ := r_layBox (w := zW sd) (h := zH sd) (n := zN sd) (Nat.mul_le_mul hw hh) hn draft
  obtain ⟨N, sn2, told2, d', hN, rd, c3, c7, hDG⟩ := gB d0 l2
  rw [← hEz] at rd
  obtain ⟨m2, er2⟩ := rd eo (nI u) data r0 r1 r2 r3 r4 r5 r6 r7 (nI E) (0 : Int32) (0 : Int32) (-1 : Int32) n3
  have h0 : ¬ nI E < 0 := nI_nlt (b := 0) (Nat.zero_le _) (by omega)
  have hin : X7_in (nI E) 0 (nI f) = some 1 := by
    unfold X7_in
    rw [if_neg h0, if_neg (nI_nlt hf (by omega))]
  have e2 : X7_load o (nI f) tl pos er ea eo (nI u) ns ne sn to buffer data draft r0 r1 r2 r3 r4 r5 r6 r7 (nI E) = X7_load_L132 eo (nI u) buffer data r0 r1 r2 r3 r4 r5 r6 r7 (nI E) FU (0 : Int32) (0 : Int32) (nI E) (nI (e + 1)) (nI 0) (-1 : Int32) n3 (nI 0) (0 : Int32) (nI 0) d0 := by
    unfold X7_load
    rw [q_b1 hin, if_neg (show ¬ (1 : Int32) = 0 by decide)]
    unfold X7_load_J23
    rw [q_b2 (show X7_fails (0 : Int32) (0 : Int32) (1 : Int32) = some ((0 : Int32), (0 : Int32)) from rfl), if_pos (show (0 : Int32) = 0 from rfl), q_b2 (show X7_takeWord [98, 111, 120] (nI E) 0 0 buffer = _ from g0), if_neg (show ¬ nI 1 = 0 by decide)]
    unfold X7_load_J91
    rw [q_b5 (show X7_number (nI E) (nI 3) 0 (-1) ns buffer 1 12 = _ from g1), q_b5 g2, q_b5 g3, q_b1 l1, q_b3 g4]
    exact Eq.trans rfl rfl
  obtain ⟨fu, eF⟩ : ∃ fu, FU = fu + 1 + N := ⟨FU - 1 - N, by unfold FU; omega⟩
  obtain ⟨dd, q0, q1, q2, q3, q4, q5, q6, q7, h1, h2, h3⟩ := rd_done (buffer := buffer) eo hu hO data r0 r1 r2 r3 r4 r5 r6 r7 (nI E) (0 : Int32) (0 : Int32) (nI E) (nI E) (-1 : Int32) m2 (nI 0) sn2 told2 c3 c7
  refine ⟨nI E, nI E, nI 0, -1, -1, m2, nI 0, sn2, told2, cpN dd data 2243, dd, q0, q1, q2, q3, q4, q5, q6, q7, ?_, (hDG dd h2).congr (fun j hj => if_pos hj), h3⟩
  rw [e2, eF, er2 (fu + 1), rd_end T]
  exact h1
end XR
