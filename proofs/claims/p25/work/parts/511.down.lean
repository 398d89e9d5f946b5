/-! NUMBERS: the choice of a hole, the law's side: downwards -/
def chG (gg : Nat → Nat → Int32) (v LL : Nat) (z : Bool) : Option Nat → Nat → Nat → Int32
  | some b => gset (gset (gset gg v 3 (1 : Int32)) v 4 (nI b)) v 5 (nI LL)
  | none => if z = true then gg else gset gg v 3 (3 : Int32)
/-- what the law's own show answers, whatever its guests are -/
def LAsk (G : LG) (V HN LL : Nat) (hI rI : Int32) (holeY : Nat → Int32) (Pf Cf : Nat → Nat → Nat) : Prop :=
  (∀ k, k < HN → ∀ q, q < 26 → ∀ gg va, ∃ va2, X10_price (shUpG G gg) va (nI q) (nI k) = some (nI (Pf k q), va2)) ∧
  (∀ k, k < HN → ∀ q, q < 26 → ∀ gg, X10_shown (shUpG G gg) (nI k) (nI q) = some (nI (Cf k q))) ∧
  (∀ k, k < HN → ∀ gg f, X10_canUse (shUpG G gg) f (nI k) = some (useV hI rI (holeY k) (f 0))) ∧
  (∀ (gg : Nat → Nat → Int32) (facts lookers : Nat → Int32), (∀ u, u < V → ∀ j, j < 7 → gg u j = facts (u * 7 + j)) → CInv V HN lookers facts → ∀ k, k < HN → X10_looker (shUpG G gg) (nI k) = some (lookers k)) ∧
  (shZ G 3 = HN ∧ shZ G 4 = V ∧ shI G 1 = nI LL) ∧ (V ≤ 20 ∧ HN ≤ 4 ∧ ∀ k, k < HN → ∀ q, q < 26 → Cf k q ≤ 96 ∧ Pf k q ≤ 999)
theorem bn2_s {α β γ : Type} {a : α} {b : β} {k : α → β → Option γ} : bn2 (some (a, b)) k = k a b := rfl
theorem nI_m1 (i : Nat) : nI i + (-1 : Int32) = nI i - (1 : Int32) := (Int32.sub_eq_add_neg _ _).symm
theorem x_chooseB {G : LG} {V HN LL : Nat} {hI rI : Int32} {holeY : Nat → Int32} {Pf Cf : Nat → Nat → Nat} (A : LAsk G V HN LL hI rI holeY Pf Cf) {gg : Nat → Nat → Int32} {facts lookers : Nat → Int32} (hg : ∀ u, u < V → ∀ j, j < 7 → gg u j = facts (u * 7 + j)) (I : CInv V HN lookers facts) {v q c : Nat} (hv : v < V) (hq : q < 26) (hc : c ≤ 999) (f1 : facts (v * 7 + 1) = nI q) (f2 : facts (v * 7 + 2) = nI c)
    (kL : Int32 → Int32 → (Nat → Int64) → (Nat → Nat → Int32) → Nat → Option ((Nat → Int64) × (Nat → Nat → Int32))) (l2 : Int32) : ∀ (fuel i : Nat) (z : Bool) (cnt : Nat) (ob : Option Nat) (va : Nat → Int64) (nc : Nat), i < fuel → i ≤ HN → BI (fun j => i ≤ j ∧ j < HN) (okC hI rI holeY Pf (facts (v * 7)) q c) (fun j => lookers j = -nI 1) (fun j => Cf j q) z ob → (z = true ↔ 0 < cnt) → cnt + i ≤ HN → nc + 5 * i ≤ 600 →
    ∃ z2 ob2 va2 nc2, BI (fun j => 0 ≤ j ∧ j < HN) (okC hI rI holeY Pf (facts (v * 7)) q c) (fun j => lookers j = -nI 1) (fun j => Cf j q) z2 ob2 ∧ nc2 ≤ nc + 5 * i ∧ X10_ticks_L160 G kL fuel l2 (nI v) (nI cnt) (obI ob) (nI i - (1 : Int32)) va gg nc = kL l2 (nI (v + 1)) va2 (chG gg v LL z2 ob2) nc2
  | 0, i, _, _, _, _, _, h0, _, _, _, _, _ => absurd h0 (Nat.not_lt_zero _)
  | fuel + 1, i, z, cnt, ob, va, nc, h0, hi, B, hz, hcnt, hnc => by
    obtain ⟨aP, aC, aU, aL, ⟨z3, z4, iL⟩, hV, hH, hPC⟩ := id A
    have g1 : gg v 1 = nI q := (hg v hv 1 (by decide)).trans f1
    have g2 : gg v 2 = nI c := (hg v hv 2 (by decide)).trans f2
    have g0 : gg v 0 = facts (v * 7) := hg v hv 0 (by decide)
    rw [X10_ticks_L160]
    cases i with
    | zero =>
      refine ⟨z, ob, va, nc, B, by omega, ?_⟩
      rw [if_pos (show nI 0 - (1 : Int32) < 0 by decide)]
      cases ob with
      | some b =>
        have hb : b < HN := B.2.1.2
        have hzt : z = true := B.1.mpr ⟨b, B.2.1, B.2.2.1⟩
        have hc0 := hz.mp hzt
        rw [if_neg (show ¬ nI cnt = 0 from nI_ne0 hc0 (by omega)), show obI (some b) = nI b from rfl]
        unfold X10_ticks_J261 X10_ticks_J291
        rw [if_pos (nI_pos' (by omega)), z4, nI_clamp (show v < 2 ^ 31 by omega), q_ckw hv (by omega), s_nm, s_nm, s_nm, s_nm, s_nm, iL, nI_1]
        rfl
      | none =>
        unfold X10_ticks_J261 X10_ticks_J291
        rw [show obI none = -nI 1 from rfl, if_neg (show ¬ (0 : Int32) ≤ -nI 1 by decide)]
        cases z with
        | true =>
          rw [if_neg (show ¬ nI cnt = 0 from nI_ne0 (hz.mp rfl) (by omega)), s_nm, nI_1]
          rfl
        | false =>
          have hc0 : cnt = 0 := by
            by_cases w : 0 < cnt
            · exact absurd (hz.mpr w) (by decide)
            · omega
          rw [if_pos (show nI cnt = 0 by rw [hc0]; rfl), z4, nI_clamp (show v < 2 ^ 31 by omega), q_ckw hv (by omega), s_nm, if_neg (show ¬ (0 : Int32) ≤ -nI 1 by decide), s_nm, nI_1]
          rfl
    | succ i =>
      have hi' : i < HN := by omega
      have hP : ∀ j, (i ≤ j ∧ j < HN) ↔ ((i + 1 ≤ j ∧ j < HN) ∨ j = i) := fun j => by omega
      rw [show nI (i + 1) - (1 : Int32) = nI i from pk_sub (b := 1) (by omega), if_neg (nI_pos (by omega)), nI_clamp (show v < 2 ^ 31 by omega), aU i hi' gg (gg v), q_bn1, z4, q_ckw hv (by omega), g0]
      by_cases u : useV hI rI (holeY i) (facts (v * 7)) = nI 0
      · obtain ⟨z2, ob2, va2, nc2, k1, k2, k3⟩ := x_chooseB A hg I hv hq hc f1 f2 kL l2 fuel i z cnt ob va nc (by omega) (by omega) (B.no hP (fun g => g.1 u)) hz (by omega) (by omega)
        refine ⟨z2, ob2, va2, nc2, k1, by omega, ?_⟩
        rw [if_pos (show useV hI rI (holeY i) (facts (v * 7)) = 0 from u)]
        unfold X10_ticks_J244
        rw [s_nm, nI_m1]
        exact k3
      · obtain ⟨va2, eP⟩ := aP i hi' q hq gg va
        obtain ⟨cb, pb⟩ := hPC i hi' q hq
        rw [if_neg (show ¬ useV hI rI (holeY i) (facts (v * 7)) = 0 from u), g1, eP, bn2_s, q_ck (show nc + 3 ≤ 600 by omega), s_nm, g2]
        by_cases cp : Pf i q ≤ c
        · have hok : okC hI rI holeY Pf (facts (v * 7)) q c i := ⟨u, cp⟩
          rw [if_pos (nI_le cp (by omega)), s_nm, nI_1, aL gg facts lookers hg I i hi', q_bn1]
          rcases I.2 i hi' with lk | ⟨u9, hu9, lk, -⟩
          · rw [if_neg (show ¬ (0 : Int32) ≤ lookers i by rw [lk]; decide)]
            cases ob with
            | none =>
              obtain ⟨z2, ob2, va3, nc2, k1, k2, k3⟩ := x_chooseB A hg I hv hq hc f1 f2 kL l2 fuel i true (cnt + 1) (some i) va2 (nc + 3) (by omega) (by omega) (B.new hP hok lk (fun b hb => (by cases hb))) ⟨fun _ => by omega, fun _ => rfl⟩ (by omega) (by omega)
              refine ⟨z2, ob2, va3, nc2, k1, by omega, ?_⟩
              rw [if_pos (show obI none < 0 by decide)]
              unfold X10_ticks_J240 X10_ticks_J244
              rw [s_nm, nI_m1]
              exact k3
            | some b =>
              have hb := B.2.1
              obtain ⟨cb2, -⟩ := hPC b hb.2 q hq
              rw [show obI (some b) = nI b from rfl, if_neg (nI_pos (by omega)), aC i hi' q hq gg, q_bn1, q_ck (show nc + 3 + 1 ≤ 600 by omega), s_nm, aC b hb.2 q hq gg, q_bn1, q_ck (show nc + 3 + 1 + 1 ≤ 600 by omega), s_nm]
              by_cases lt : Cf i q < Cf b q
              · obtain ⟨z2, ob2, va3, nc2, k1, k2, k3⟩ := x_chooseB A hg I hv hq hc f1 f2 kL l2 fuel i true (cnt + 1) (some b) va2 (nc + 3 + 1 + 1) (by omega) (by omega) (B.old hP hok (Or.inl lt)) ⟨fun _ => by omega, fun _ => rfl⟩ (by omega) (by omega)
                refine ⟨z2, ob2, va3, nc2, k1, by omega, ?_⟩
                rw [if_pos (nI_lt lt (by omega))]
                unfold X10_ticks_J244
                rw [s_nm, nI_m1]
                exact k3
              · obtain ⟨z2, ob2, va3, nc2, k1, k2, k3⟩ := x_chooseB A hg I hv hq hc f1 f2 kL l2 fuel i true (cnt + 1) (some i) va2 (nc + 3 + 1 + 1) (by omega) (by omega) (B.new hP hok lk (fun b2 hb2 => by rw [← Option.some.inj hb2]; omega)) ⟨fun _ => by omega, fun _ => rfl⟩ (by omega) (by omega)
                refine ⟨z2, ob2, va3, nc2, k1, by omega, ?_⟩
                rw [if_neg (nI_nlt (by omega) (by omega))]
                unfold X10_ticks_J240 X10_ticks_J244
                rw [s_nm, nI_m1]
                exact k3
          · obtain ⟨z2, ob2, va3, nc2, k1, k2, k3⟩ := x_chooseB A hg I hv hq hc f1 f2 kL l2 fuel i true (cnt + 1) ob va2 (nc + 3) (by omega) (by omega) (B.busy hP hok (fun w => by rw [lk] at w; exact ne_m1 (show u9 < 26 by omega) w)) ⟨fun _ => by omega, fun _ => rfl⟩ (by omega) (by omega)
            refine ⟨z2, ob2, va3, nc2, k1, by omega, ?_⟩
            rw [if_pos (show (0 : Int32) ≤ lookers i by rw [lk]; exact nI_pos' (by omega))]
            unfold X10_ticks_J244
            rw [s_nm, nI_m1]
            exact k3
        · obtain ⟨z2, ob2, va3, nc2, k1, k2, k3⟩ := x_chooseB A hg I hv hq hc f1 f2 kL l2 fuel i z cnt ob va2 (nc + 3) (by omega) (by omega) (B.no hP (fun g => cp g.2)) hz (by omega) (by omega)
          refine ⟨z2, ob2, va3, nc2, k1, by omega, ?_⟩
          rw [if_neg (nI_ge (by omega) (by omega))]
          unfold X10_ticks_J244
          rw [s_nm, nI_m1]
          exact k3
