/-! NUMBERS: the reference's reader: statement after statement -/
section XR
variable {E : Nat} {bytes buffer : Nat → Int32} {tx : Nat → Nat}
/-- the reader goes from the position p to p2 -/
def Rd (E : Nat) (buffer : Nat → Int32) (n p : Nat) (seen told : Int32) (d : Nat → Int32) (p2 : Nat) (seen2 told2 : Int32) (d2 : Nat → Int32) : Prop := ∀ (eo ud : Int32) (data r0 r1 r2 r3 r4 r5 r6 r7 : Nat → Int32) (p1 th bl ea ns : Int32), ∃ n2, ∀ fuel, X7_load_L132 eo ud buffer data r0 r1 r2 r3 r4 r5 r6 r7 p1 (fuel + n) th bl (nI E) (nI p) (nI 0) ea ns (nI 0) seen told d = X7_load_L132 eo ud buffer data r0 r1 r2 r3 r4 r5 r6 r7 p1 fuel th bl (nI E) (nI p2) (nI 0) ea n2 (nI 0) seen2 told2 d2
theorem Rd.zero {p : Nat} {seen told : Int32} {d : Nat → Int32} : Rd E buffer 0 p seen told d p seen told d := fun _ _ _ _ _ _ _ _ _ _ _ _ _ _ _ ns => ⟨ns, fun _ => rfl⟩
theorem Rd.trans {n1 n2 p p2 p3 : Nat} {s t s2 t2 s3 t3 : Int32} {d d2 d3 : Nat → Int32} (h1 : Rd E buffer n1 p s t d p2 s2 t2 d2) (h2 : Rd E buffer n2 p2 s2 t2 d2 p3 s3 t3 d3) : Rd E buffer (n1 + n2) p s t d p3 s3 t3 d3 := by
  intro eo ud data r0 r1 r2 r3 r4 r5 r6 r7 p1 th bl ea ns
  obtain ⟨m1, e1⟩ := h1 eo ud data r0 r1 r2 r3 r4 r5 r6 r7 p1 th bl ea ns
  obtain ⟨m2, e2⟩ := h2 eo ud data r0 r1 r2 r3 r4 r5 r6 r7 p1 th bl ea m1
  refine ⟨m2, fun fuel => ?_⟩
  rw [show fuel + (n1 + n2) = fuel + n2 + n1 by omega, e1, e2]
theorem Rd.step (T : Txt E bytes buffer tx) {p p2 : Nat} {s t s2 t2 : Int32} {d d2 : Nat → Int32} (hp : p < E) (h32 : tx p ≠ 32) (h : ∀ ea ns : Int32, ∃ n2, X7_statement (nI E) (nI p) (nI 0) ea ns (nI 0) s t buffer d = some (nI p2, nI 0, ea, n2, nI 0, s2, t2, d2)) : Rd E buffer 1 p s t d p2 s2 t2 d2 := by
  intro eo ud data r0 r1 r2 r3 r4 r5 r6 r7 p1 th bl ea ns
  obtain ⟨n2, e⟩ := h ea ns
  refine ⟨n2, fun fuel => ?_⟩
  have ha := t_ahead T (p := p) (by omega)
  have ht := (T.2 p hp).1
  rw [sk_at h32, chA_in hp] at ha
  have hne : ¬ nI (tx p) = (-1 : Int32) := fun z => nI_pos (n := tx p) (by omega) (by rw [z]; decide)
  rw [X7_load_L132, show X7_isGood (nI 0) = some 1 from rfl, q_bn1, if_neg (show ¬ (1 : Int32) = 0 by decide), q_b2 ha, if_neg hne, q_b8 e]
theorem rd_end (T : Txt E bytes buffer tx) (eo ud : Int32) (data r0 r1 r2 r3 r4 r5 r6 r7 : Nat → Int32) (p1 th bl ea ns seen told : Int32) (d : Nat → Int32) (fuel : Nat) : X7_load_L132 eo ud buffer data r0 r1 r2 r3 r4 r5 r6 r7 p1 (fuel + 1) th bl (nI E) (nI E) (nI 0) ea ns (nI 0) seen told d = X7_load_J154 eo ud buffer data r0 r1 r2 r3 r4 r5 r6 r7 p1 th bl (nI E) (nI E) (nI 0) ea ns (nI 0) seen told d := by
  have ha := t_ahead T (p := E) (Nat.le_refl _)
  rw [sk_no (fun z => Nat.lt_irrefl _ z.1), chA_out (Nat.lt_irrefl _)] at ha
  rw [X7_load_L132, show X7_isGood (nI 0) = some 1 from rfl, q_bn1, if_neg (show ¬ (1 : Int32) = 0 by decide), q_b2 ha, if_pos (show -nI 1 = (-1 : Int32) from rfl)]
/-- no hole told: one at 0, 0 -/
theorem rd_done (eo : Int32) {u c V : Nat} (hu : u ≤ 8) (hc : c ≤ 4) (data r0 r1 r2 r3 r4 r5 r6 r7 : Nat → Int32) (p1 th bl tl pos ea ns ne seen told : Int32) {d : Nat → Int32} (d3 : d 3 = nI c) (d7 : d 7 = nI V) : ∃ (dd q0 q1 q2 q3 q4 q5 q6 q7 : Nat → Int32), X7_load_J154 eo (nI u) buffer data r0 r1 r2 r3 r4 r5 r6 r7 p1 th bl tl pos (nI 0) ea ns ne seen told d = some (nI V, th, bl, tl, pos, nI 0, ea, ea, nI (min (u + 1) 8), ns, ne, seen, told, cpN dd data 2243, dd, q0, q1, q2, q3, q4, q5, q6, q7) ∧ (dd 3 = nI (hlN c) ∧ ∀ j, j ≠ 3 → dd j = d j) ∧ ∀ k, k < min (u + 1) 8 → ∀ j, j < 2243 → hsel q0 q1 q2 q3 q4 q5 q6 q7 k j = (if k + 1 = min (u + 1) 8 then data j else hsel r0 r1 r2 r3 r4 r5 r6 r7 (if u = 8 then k + 1 else k) j) := by
  obtain ⟨q0, q1, q2, q3, q4, q5, q6, q7, hm, hq⟩ := r_remember data r0 r1 r2 r3 r4 r5 r6 r7 hu
  by_cases e : c = 0
  · refine ⟨upd d 3 (1 : Int32), q0, q1, q2, q3, q4, q5, q6, q7, ?_, ⟨?_, fun j hj => pk_un hj⟩, hq⟩
    · unfold X7_load_J154
      rw [show X7_isGood (nI 0) = some 1 from rfl, q_bn1, if_neg (show ¬ (1 : Int32) = 0 by decide), q_ld (i := (3 : Int32)) d 3 _ rfl (by omega) (by omega), d3, if_pos (show nI c = 0 by rw [e]; rfl), q_st _ 3 _ (show (3 : Int32) = nI 3 from rfl) (by decide) (by decide)]
      unfold X7_load_J190
      rw [q_b9 hm, q_b1 (show X7_copy 2243 2243 (upd d (3 : Int32).toNatClampNeg (1 : Int32)) data 2243 = some (cpN (upd d 3 (1 : Int32)) data 2243) from r_cp ..), q_ld (i := (7 : Int32)) _ 7 _ rfl (by omega) (by omega), show cpN (upd d 3 (1 : Int32)) data 2243 7 = nI V from (if_pos (by omega)).trans ((pk_un (by decide)).trans d7)]
      rfl
    · rw [pk_us, e]; rfl
  · refine ⟨d, q0, q1, q2, q3, q4, q5, q6, q7, ?_, ⟨?_, fun j _ => rfl⟩, hq⟩
    · unfold X7_load_J154
      rw [show X7_isGood (nI 0) = some 1 from rfl, q_bn1, if_neg (show ¬ (1 : Int32) = 0 by decide), q_ld (i := (3 : Int32)) d 3 _ rfl (by omega) (by omega), d3, if_neg (show ¬ nI c = 0 from fun z => e ((nI_eq (b := 0) (by omega) (by decide)).mp z))]
      unfold X7_load_J190
      rw [q_b9 hm, q_b1 (show X7_copy 2243 2243 d data 2243 = some (cpN d data 2243) from r_cp ..), q_ld (i := (7 : Int32)) _ 7 _ rfl (by omega) (by omega), show cpN d data 2243 7 = nI V from (if_pos (by omega)).trans d7]
    · rw [d3]; unfold hlN; rw [if_neg e]
end XR
