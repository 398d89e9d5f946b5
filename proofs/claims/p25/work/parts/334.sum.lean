/-! PHASE 2: sums of a setup text -/
section SUM
variable {E : Nat} {bytes buffer : Nat → Int32} {tx : Nat → Nat}
/-- the reference behind a factor, when T waits in its term -/
def afF (f0 : TyR) (E : Int32) (buffer : Nat → Int32) (nt T : Nat) (o e ea ns ne : Int32) (d : Nat → Int32) : Option (Int32 × Int32 × Int32 × Int32 × Int32 × (Nat → Int32)) :=
  if T = 0 then X7_term_L4 f0 E buffer nt o e ea ns ne d else X7_term_J68 f0 E buffer (fun z0 z1 z2 z3 z4 z5 => X7_term_L4 f0 E buffer nt z0 z1 z2 z3 z4 z5) (if T = 42 then 4 else 5) o e ea ns ne d
/-- .. and behind a term, when S waits in its sum -/
def afT (f1 : TyR) (E : Int32) (buffer : Nat → Int32) (nn S : Nat) (o e ea ns ne : Int32) (d : Nat → Int32) : Option (Int32 × Int32 × Int32 × Int32 × Int32 × (Nat → Int32)) :=
  if S = 0 then X7_readSum_L4 f1 E buffer nn o e ea ns ne d else X7_readSum_J68 f1 E buffer (fun z0 z1 z2 z3 z4 z5 => X7_readSum_L4 f1 E buffer nn z0 z1 z2 z3 z4 z5) (if S = 43 then 2 else 3) o e ea ns ne d
theorem afF_err {k : Nat} (h2 : 2 ≤ k) (h6 : k ≤ 6) (f0 : TyR) (nt T : Nat) (E o ea ns ne : Int32) (d : Nat → Int32) : afF f0 E buffer (nt + 1) T o (-nI k) ea ns ne d = some (o, -nI k, ea, ns, ne, d) := by
  unfold afF
  by_cases c : T = 0
  · rw [if_pos c]; exact r_termErr h2 h6 f0 nt E o ea ns ne d
  · rw [if_neg c]
    unfold X7_term_J68
    rw [q_b1 (r_emitErr h2 h6 _ _)]
    exact r_termErr h2 h6 f0 nt E o ea ns ne d
theorem afT_err {k : Nat} (h2 : 2 ≤ k) (h6 : k ≤ 6) (f1 : TyR) (nn S : Nat) (E o ea ns ne : Int32) (d : Nat → Int32) : afT f1 E buffer (nn + 1) S o (-nI k) ea ns ne d = some (o, -nI k, ea, ns, ne, d) := by
  unfold afT
  by_cases c : S = 0
  · rw [if_pos c]; exact r_sumLErr h2 h6 f1 nn E o ea ns ne d
  · rw [if_neg c]
    unfold X7_readSum_J68
    rw [q_b1 (r_emitErr h2 h6 _ _)]
    exact r_sumLErr h2 h6 f1 nn E o ea ns ne d
/-- what the waiting signs add to the height -/
def pnd (S : Nat) : Nat := if S = 0 then 0 else 1
theorem q_addOp {sz S : Nat} (codes : Nat → Int32) (h : sz + pnd S ≤ 800) (hS : S < 256) : X2_addOperation (nI sz) codes (nI S) = some (nI (sz + pnd S), if S = 0 then codes else upd codes sz (-nI S)) := by
  unfold X2_addOperation pnd at *
  by_cases c : S = 0
  · subst c
    exact if_pos rfl
  · rw [if_neg c] at h
    rw [if_neg (show ¬ nI S = 0 from nI_ne0 (by omega) (by omega)), if_neg c, if_neg c, q_b2 (q_add2 codes (-nI S) (by omega))]
/-- an operation that may wait is put behind, both sides -/
theorem op_both {sz S H pend p E : Nat} {codes d0 d : Nat → Int32} (hS : S = 0 ∨ S = 42 ∨ S = 43 ∨ S = 45 ∨ S = 47) (hp : p ≤ E) (hE : E ≤ 800) (hsz : sz + pend + pnd S ≤ p) (X : RX sz codes d) (out : ∀ j, j ≠ 9 → (j < 643 ∨ 2243 ≤ j) → d j = d0 j) (hH : hOf codes sz = H + pnd S) (h1 : 1 ≤ H) :
    ∃ codes' d', X2_addOperation (nI sz) codes (nI S) = some (nI (sz + pnd S), codes') ∧ (S = 0 → d' = d) ∧ (S ≠ 0 → X7_emit (nI 0) d (if S = 43 then 2 else if S = 45 then 3 else if S = 42 then 4 else 5) = some d') ∧ RX (sz + pnd S) codes' d' ∧ hOf codes' (sz + pnd S) = H ∧ ∀ j, j ≠ 9 → (j < 643 ∨ 2243 ≤ j) → d' j = d0 j := by
  by_cases c : S = 0
  · subst c
    refine ⟨codes, d, (q_addOp codes (by unfold pnd; rw [if_pos rfl]; omega) (by omega)).trans (by rw [if_pos rfl]), fun _ => rfl, fun q => absurd rfl q, X, hH, out⟩
  · have hp1 : pnd S = 1 := if_neg c
    rw [hp1] at hsz hH
    have ho : OpR (-nI S) (if S = 43 then 2 else if S = 45 then 3 else if S = 42 then 4 else 5) := by
      rcases hS with e | e | e | e | e
      · exact absurd e c
      · subst e; exact Or.inr (Or.inr (Or.inl ⟨rfl, rfl⟩))
      · subst e; exact Or.inl ⟨rfl, rfl⟩
      · subst e; exact Or.inr (Or.inl ⟨rfl, rfl⟩)
      · subst e; exact Or.inr (Or.inr (Or.inr ⟨rfl, rfl⟩))
    obtain ⟨d', e1, e2, e3, e4⟩ := X.op (by omega) ho (by omega)
    refine ⟨upd codes sz (-nI S), d', (q_addOp codes (by rw [hp1]; omega) (by omega)).trans (by rw [if_neg c]), fun q => absurd q c, fun _ => e1, by rw [hp1]; exact e2, by rw [hp1, e3]; omega, fun j q1 q2 => (e4 j q1 q2).trans (out j q1 q2)⟩
theorem t_sumL (T0 : Txt E bytes buffer tx) {d0 : Nat → Int32} {dd : Nat} {f : TyS} {g : TyR} (hdd : dd ≤ 4) (hF : Piece E bytes buffer d0 dd (2 * dd + 2) f g) {H0 : Nat} (hH0 : H0 ≤ 2 * dd) (pend : Nat) :
    ∀ (fuel i p sz S T nt nn : Nat) (codes d : Nat → Int32) (num ns : Int32), E - p < fuel → E - p < nt → E - p < nn → i < p → (S = 0 ∨ S = 43 ∨ S = 45) → (T = 0 ∨ T = 42 ∨ T = 47) → PS E (pend + pnd S + pnd T) p sz codes d0 d → hOf codes sz = H0 + pnd S + pnd T →
    (∃ p' sz' codes' d' num' ns', p < p' ∧ X3_readSum_L7 f (nI E) bytes (nI dd) fuel (nI S) (nI T) (nI i) (nI 0) (-nI 1) (nI p) num (nI sz) codes = some (nI 1, nI 0, -nI 1, nI p', num', nI sz', codes') ∧
      (bn6 (bn6 (g (nI E) (nI p) (nI 0) (-nI 1) ns (nI dd) buffer d) fun o1 o2 o3 o4 o5 o6 => afF g (nI E) buffer nt T o1 o2 o3 o4 o5 o6) fun o1 o2 o3 o4 o5 o6 => afT (X7_term g) (nI E) buffer nn S o1 o2 o3 o4 o5 o6) = some (nI p', nI 0, -nI 1, ns', nI dd, d') ∧ PS E pend p' sz' codes' d0 d' ∧ hOf codes' sz' = H0 + 1) ∨
    ∃ k of a b c e a' b' c' e', 2 ≤ k ∧ k ≤ 6 ∧ X3_readSum_L7 f (nI E) bytes (nI dd) fuel (nI S) (nI T) (nI i) (nI 0) (-nI 1) (nI p) num (nI sz) codes = some (nI 0, -nI k, nI of, a, b, c, e) ∧
      (bn6 (bn6 (g (nI E) (nI p) (nI 0) (-nI 1) ns (nI dd) buffer d) fun o1 o2 o3 o4 o5 o6 => afF g (nI E) buffer nt T o1 o2 o3 o4 o5 o6) fun o1 o2 o3 o4 o5 o6 => afT (X7_term g) (nI E) buffer nn S o1 o2 o3 o4 o5 o6) = some (a', -nI k, nI of, b', c', e')
  | 0, i, p, _, _, _, _, _, _, _, _, _, h, _, _, _, _, _, _, _ => absurd h (Nat.not_lt_zero _)
  | fuel + 1, i, p, sz, S, T, nt, nn, codes, d, num, ns, h, hnt, hnn, hi, hS, hT, P, hH => by
    have hE := T0.1
    have hp := P.1
    obtain ⟨nt, rfl⟩ : ∃ n, nt = n + 1 := ⟨nt - 1, by omega⟩
    obtain ⟨nn, rfl⟩ : ∃ n, nn = n + 1 := ⟨nn - 1, by omega⟩
    have hn0 : ¬ nI 1 = 0 := by decide +kernel
    have pS : pnd S ≤ 1 := by unfold pnd; split <;> omega
    have pT : pnd T ≤ 1 := by unfold pnd; split <;> omega
    have hg : X7_isGood (nI 0) = some (nI 1) := rfl
    rw [X3_readSum_L7, if_neg (nI_ge (show i < E by omega) (by omega))]
    rcases hF (pend + pnd S + pnd T) p sz codes d num ns (by omega) P (by omega) with ⟨p1, sz1, codes1, d1, num1, ns1, l1, g1, g2, ⟨P1, P2, P3, P4⟩, g3⟩ | ⟨k, of, a, b, c, e, a', b', c', e', k1, k2, g1, g2⟩
    · rw [q_b7 g1, q_b6 g2, if_neg hn0]
      -- the term's operation
      obtain ⟨codes2, d2, o1, o2, o3, o4, o5, o6⟩ := op_both (S := T) (H := H0 + pnd S + 1) (pend := pend + pnd S) (by omega) P1 hE (by omega) P3 P4 (by omega) (by omega)
      have hF2 : afF g (nI E) buffer (nt + 1) T (nI p1) (nI 0) (-nI 1) ns1 (nI dd) d1 = X7_term_L4 g (nI E) buffer (nt + 1) (nI p1) (nI 0) (-nI 1) ns1 (nI dd) d2 := by
        unfold afF
        by_cases c : T = 0
        · rw [if_pos c, o2 c]
        · rw [if_neg c]
          unfold X7_term_J68
          have hcode : (if T = 42 then (4 : Int32) else 5) = (if T = 43 then 2 else if T = 45 then 3 else if T = 42 then 4 else 5) := by
            rw [if_neg (show ¬ T = 43 by omega), if_neg (show ¬ T = 45 by omega)]
          rw [hcode, q_b1 (o3 c)]
      rw [q_b2 o1, hF2]
      have ha := t_ahead T0 P1
      have hs1 := sk_ge E tx p1
      have hs2 := sk_le (tx := tx) P1
      have hss := sk_sk E tx p1
      have ha2 := t_ahead T0 hs2
      rw [hss] at ha2
      rcases t_either T0 P1 (a := 42) (b := 47) (by omega) (by omega) (by omega) (by omega) with ⟨c, hc, c1, c2, c3⟩ | ⟨c1, c2, c3⟩
      · -- one more factor of this term
        have c0 : c ≠ 0 := by omega
        have hpc : pnd c = 1 := if_neg c0
        have hp0 : pnd 0 = 0 := if_pos rfl
        have ih := t_sumL T0 hdd hF hH0 pend fuel (i + 1) (sk E tx p1 + 1) (sz1 + pnd T) S c nt (nn + 1) codes2 d2 num1 ns1 (by omega) (by omega) (by omega) (by omega) hS (by omega) ⟨by omega, by omega, o4, o6⟩ (by omega)
        have hR : X7_term_L4 g (nI E) buffer (nt + 1) (nI p1) (nI 0) (-nI 1) ns1 (nI dd) d2 = bn6 (g (nI E) (nI (sk E tx p1 + 1)) (nI 0) (-nI 1) ns1 (nI dd) buffer d2) fun o1 o2 o3 o4 o5 o6 => afF g (nI E) buffer nt c o1 o2 o3 o4 o5 o6 := by
          rw [X7_term_L4, q_b1 hg, if_neg hn0, q_b2 ha, c2]
          have hfn : (fun (o4 o5 o6 o7 o8 : Int32) (o9 : Nat → Int32) => if (if c = 42 then (1 : Int32) else 0) = 0 then X7_term_J68 g (nI E) buffer (fun z0 z1 z2 z3 z4 z5 => X7_term_L4 g (nI E) buffer nt z0 z1 z2 z3 z4 z5) (5 : Int32) o4 o5 o6 o7 o8 o9 else X7_term_J68 g (nI E) buffer (fun z0 z1 z2 z3 z4 z5 => X7_term_L4 g (nI E) buffer nt z0 z1 z2 z3 z4 z5) (4 : Int32) o4 o5 o6 o7 o8 o9) = fun o1 o2 o3 o4 o5 o6 => afF g (nI E) buffer nt c o1 o2 o3 o4 o5 o6 := by
            funext o1 o2 o3 o4 o5 o6
            unfold afF
            rw [if_neg c0]
            by_cases e : c = 42
            · rw [if_pos e, if_pos e, if_neg (by decide +kernel)]
            · rw [if_neg e, if_neg e, if_pos (by decide +kernel)]
          rcases hc with e | e
          · subst e
            rw [if_pos (show nI 42 = (42 : Int32) from rfl)]
            unfold X7_term_J29
            rw [q_b2 ha2, c2, if_pos (show nI 42 = (42 : Int32) from rfl)]
            unfold X7_term_J43
            rw [q_nm, nI_1, ← hfn]
            rfl
          · subst e
            rw [if_neg (show ¬ nI 47 = (42 : Int32) by decide +kernel), q_b2 ha2, c2, if_pos (show nI 47 = (47 : Int32) from rfl)]
            unfold X7_term_J29
            rw [q_b2 ha2, c2, if_neg (show ¬ nI 47 = (42 : Int32) by decide +kernel)]
            unfold X7_term_J43
            rw [q_nm, nI_1, ← hfn]
            rfl
        rw [hR, q_b2 (show X3_takesEither (nI E) (nI p1) bytes 42 47 = _ from c3), if_neg (show ¬ nI c = 0 from nI_ne0 (by omega) (by omega))]
        unfold X3_readSum_J82
        rw [q_nm, nI_1]
        rcases ih with ⟨p', sz', codes', d', num', ns', j1, j2, j3, j4, j5⟩ | ⟨k, of, a, b, cc, e, a', b', c', e', k1, k2, j2, j3⟩
        · exact Or.inl ⟨p', sz', codes', d', num', ns', by omega, j2, j3, j4, j5⟩
        · exact Or.inr ⟨k, of, a, b, cc, e, a', b', c', e', k1, k2, j2, j3⟩
      · -- the term ends
        have hR : X7_term_L4 g (nI E) buffer (nt + 1) (nI p1) (nI 0) (-nI 1) ns1 (nI dd) d2 = some (nI (sk E tx p1), nI 0, -nI 1, ns1, nI dd, d2) := by
          rw [X7_term_L4, q_b1 hg, if_neg hn0, q_b2 ha, if_neg (show ¬ chA E tx (sk E tx p1) = (42 : Int32) from c1), q_b2 ha2, if_neg (show ¬ chA E tx (sk E tx p1) = (47 : Int32) from c2)]
        rw [hR, q_b2 (show X3_takesEither (nI E) (nI p1) bytes 42 47 = _ from c3), if_pos (show nI 0 = 0 from rfl)]
        obtain ⟨codes3, d3, u1, u2, u3, u4, u5, u6⟩ := op_both (S := S) (H := H0 + 1) (pend := pend) (by omega) P1 hE (by omega) o4 o6 (by omega) (by omega)
        have hT2 : bn6 (some (nI (sk E tx p1), nI 0, -nI 1, ns1, nI dd, d2)) (fun o1 o2 o3 o4 o5 o6 => afT (X7_term g) (nI E) buffer (nn + 1) S o1 o2 o3 o4 o5 o6) = X7_readSum_L4 (X7_term g) (nI E) buffer (nn + 1) (nI (sk E tx p1)) (nI 0) (-nI 1) ns1 (nI dd) d3 := by
          rw [s_b6]
          unfold afT
          by_cases c : S = 0
          · rw [if_pos c, u2 c]
          · rw [if_neg c]
            unfold X7_readSum_J68
            have hcode : (if S = 43 then (2 : Int32) else 3) = (if S = 43 then 2 else if S = 45 then 3 else if S = 42 then 4 else 5) := by
              rcases hS with e | e | e
              · exact absurd e c
              · rw [if_pos e, if_pos e]
              · rw [if_neg (show ¬ S = 43 by omega), if_neg (show ¬ S = 43 by omega), if_pos e]
            rw [hcode, q_b1 (u3 c)]
        rw [hT2, q_b2 u1]
        rcases t_either T0 hs2 (a := 43) (b := 45) (by omega) (by omega) (by omega) (by omega) with ⟨c, hc, v1, v2, v3⟩ | ⟨v1, v2, v3⟩
        · -- one more term
          rw [hss] at v1 v2 v3
          have c0 : c ≠ 0 := by omega
          have hpc : pnd c = 1 := if_neg c0
          have hp0 : pnd 0 = 0 := if_pos rfl
          have ih := t_sumL T0 hdd hF hH0 pend fuel (i + 1) (sk E tx p1 + 1) (sz1 + pnd T + pnd S) c 0 FU nn codes3 d3 num1 ns1 (by omega) (by unfold FU; omega) (by omega) (by omega) (by omega) (Or.inl rfl) ⟨by omega, by omega, u4, u6⟩ (by omega)
          have hR2 : X7_readSum_L4 (X7_term g) (nI E) buffer (nn + 1) (nI (sk E tx p1)) (nI 0) (-nI 1) ns1 (nI dd) d3 = bn6 (bn6 (g (nI E) (nI (sk E tx p1 + 1)) (nI 0) (-nI 1) ns1 (nI dd) buffer d3) fun o1 o2 o3 o4 o5 o6 => afF g (nI E) buffer FU 0 o1 o2 o3 o4 o5 o6) fun o1 o2 o3 o4 o5 o6 => afT (X7_term g) (nI E) buffer nn c o1 o2 o3 o4 o5 o6 := by
            have hin : (bn6 (g (nI E) (nI (sk E tx p1 + 1)) (nI 0) (-nI 1) ns1 (nI dd) buffer d3) fun o1 o2 o3 o4 o5 o6 => afF g (nI E) buffer FU 0 o1 o2 o3 o4 o5 o6) = X7_term g (nI E) (nI (sk E tx p1 + 1)) (nI 0) (-nI 1) ns1 (nI dd) buffer d3 := by
              unfold X7_term afF
              rfl
            have hfn : (fun (o4 o5 o6 o7 o8 : Int32) (o9 : Nat → Int32) => if (if c = 43 then (1 : Int32) else 0) = 0 then X7_readSum_J68 (X7_term g) (nI E) buffer (fun z0 z1 z2 z3 z4 z5 => X7_readSum_L4 (X7_term g) (nI E) buffer nn z0 z1 z2 z3 z4 z5) (3 : Int32) o4 o5 o6 o7 o8 o9 else X7_readSum_J68 (X7_term g) (nI E) buffer (fun z0 z1 z2 z3 z4 z5 => X7_readSum_L4 (X7_term g) (nI E) buffer nn z0 z1 z2 z3 z4 z5) (2 : Int32) o4 o5 o6 o7 o8 o9) = fun o1 o2 o3 o4 o5 o6 => afT (X7_term g) (nI E) buffer nn c o1 o2 o3 o4 o5 o6 := by
              funext o1 o2 o3 o4 o5 o6
              unfold afT
              rw [if_neg c0]
              by_cases e : c = 43
              · rw [if_pos e, if_pos e, if_neg (by decide +kernel)]
              · rw [if_neg e, if_neg e, if_pos (by decide +kernel)]
            rw [hin, X7_readSum_L4, q_b1 hg, if_neg hn0, q_b2 ha2, v2]
            rcases hc with e | e
            · subst e
              rw [if_pos (show nI 43 = (43 : Int32) from rfl)]
              unfold X7_readSum_J29
              rw [q_b2 ha2, v2, if_pos (show nI 43 = (43 : Int32) from rfl)]
              unfold X7_readSum_J43
              rw [q_nm, nI_1, ← hfn]
              rfl
            · subst e
              rw [if_neg (show ¬ nI 45 = (43 : Int32) by decide +kernel), q_b2 ha2, v2, if_pos (show nI 45 = (45 : Int32) from rfl)]
              unfold X7_readSum_J29
              rw [q_b2 ha2, v2, if_neg (show ¬ nI 45 = (43 : Int32) by decide +kernel)]
              unfold X7_readSum_J43
              rw [q_nm, nI_1, ← hfn]
              rfl
          rw [hR2, q_b2 (show X3_takesEither (nI E) (nI (sk E tx p1)) bytes 43 45 = _ from v3), if_neg (show ¬ nI c = 0 from nI_ne0 (by omega) (by omega))]
          unfold X3_readSum_J82
          rw [q_nm, nI_1]
          rcases ih with ⟨p', sz', codes', d', num', ns', j1, j2, j3, j4, j5⟩ | ⟨k, of, a, b, cc, e, a', b', c', e', k1, k2, j2, j3⟩
          · exact Or.inl ⟨p', sz', codes', d', num', ns', by omega, j2, j3, j4, j5⟩
          · exact Or.inr ⟨k, of, a, b, cc, e, a', b', c', e', k1, k2, j2, j3⟩
        · -- the sum ends
          rw [hss] at v1 v2 v3
          have hR2 : X7_readSum_L4 (X7_term g) (nI E) buffer (nn + 1) (nI (sk E tx p1)) (nI 0) (-nI 1) ns1 (nI dd) d3 = some (nI (sk E tx p1), nI 0, -nI 1, ns1, nI dd, d3) := by
            rw [X7_readSum_L4, q_b1 hg, if_neg hn0, q_b2 ha2, if_neg (show ¬ chA E tx (sk E tx p1) = (43 : Int32) from v1), q_b2 ha2, if_neg (show ¬ chA E tx (sk E tx p1) = (45 : Int32) from v2)]
          rw [hR2, q_b2 (show X3_takesEither (nI E) (nI (sk E tx p1)) bytes 43 45 = _ from v3), if_pos (show nI 0 = 0 from rfl)]
          exact Or.inl ⟨sk E tx p1, sz1 + pnd T + pnd S, codes3, d3, num1, ns1, by omega, rfl, rfl, ⟨hs2, by omega, u4, u6⟩, u5⟩
    · rw [q_b7 g1, q_b6 g2, if_pos (show nI 0 = 0 from rfl), afF_err k1 k2, s_b6, afT_err k1 k2]
      exact Or.inr ⟨k, of, _, _, _, _, _, _, _, _, k1, k2, rfl, rfl⟩
theorem t_sumS (T0 : Txt E bytes buffer tx) {d0 : Nat → Int32} {dd m : Nat} (hdd : dd ≤ 4) (hF : Piece E bytes buffer d0 dd (2 * dd + 2) (X3_readFactor (X3_readSum m)) (X7_factor (X7_readSum m))) : Piece E bytes buffer d0 dd (2 * dd) (X3_readSum (m + 1)) (X7_readSum (m + 1)) := by
  intro pend p sz codes d num ns p0 P hh
  have hE := T0.1
  have hp0 : pnd 0 = 0 := if_pos rfl
  have h := t_sumL T0 hdd hF hh pend FU 0 p sz 0 0 FU FU codes d num ns (by unfold FU; omega) (by unfold FU; omega) (by unfold FU; omega) p0 (Or.inl rfl) (Or.inl rfl) (by rw [hp0]; exact P) (by rw [hp0]; rfl)
  have hin : X7_readSum (m + 1) (nI E) (nI p) (nI 0) (-nI 1) ns (nI dd) buffer d = (bn6 (bn6 (X7_factor (X7_readSum m) (nI E) (nI p) (nI 0) (-nI 1) ns (nI dd) buffer d) fun o1 o2 o3 o4 o5 o6 => afF (X7_factor (X7_readSum m)) (nI E) buffer FU 0 o1 o2 o3 o4 o5 o6) fun o1 o2 o3 o4 o5 o6 => afT (X7_term (X7_factor (X7_readSum m))) (nI E) buffer FU 0 o1 o2 o3 o4 o5 o6) := by
    rw [X7_readSum]
    unfold X7_readSum_b X7_term afF afT
    rfl
  have hcl : X3_readSum (m + 1) (nI 0) (-nI 1) (nI E) (nI p) num (nI sz) codes bytes (nI dd) = X3_readSum_L7 (X3_readFactor (X3_readSum m)) (nI E) bytes (nI dd) FU (nI 0) (nI 0) (nI 0) (nI 0) (-nI 1) (nI p) num (nI sz) codes := by
    rw [X3_readSum]
    unfold X3_readSum_b
    rfl
  rw [hin, hcl]
  exact h
theorem t_sum (T0 : Txt E bytes buffer tx) (d0 : Nat → Int32) : Piece E bytes buffer d0 0 0 (X3_readSum 6) (X7_readSum 6) := by
  have h4 := t_sumS T0 (dd := 4) (m := 1) (by omega) (t_factor T0 (d0 := d0) (m := 0) (by omega) (fun q => absurd q (by omega)))
  have h3 := t_sumS T0 (dd := 3) (m := 2) (by omega) (t_factor T0 (d0 := d0) (m := 1) (by omega) (fun _ => h4))
  have h2 := t_sumS T0 (dd := 2) (m := 3) (by omega) (t_factor T0 (d0 := d0) (m := 2) (by omega) (fun _ => h3))
  have h1 := t_sumS T0 (dd := 1) (m := 4) (by omega) (t_factor T0 (d0 := d0) (m := 3) (by omega) (fun _ => h2))
  exact t_sumS T0 (dd := 0) (m := 5) (by omega) (t_factor T0 (d0 := d0) (m := 4) (by omega) (fun _ => h1))
end SUM
