/-! NUMBERS: a price asked of the law's show -/
theorem st_ok {α β : Type} {N : Nat} {i : Int32} {b : Nat → α} {k : (Nat → α) → Option β} (h : ¬ (i < 0 ∨ N ≤ i.toNatClampNeg)) : st N i b k = k b := if_neg h
section XP
variable {G : LG} {w h n HN V LL rc sz : Nat} {pull hx hy : Nat → Nat} {cells codes d : Nat → Int32} {ti : Int32} {fa : Nat → Int32}
theorem x_price (M : NG G w h n HN V LL rc pull hx hy cells ti fa) (S : SBox w h n pull HN hx hy) (B : KBox w h n cells pull) (P : PC sz codes) (Q : PAll sz codes d) (X : PX d G) {k q : Nat} (hk : k < HN) (hq : q < 26) (va : Nat → Int64) : ∃ va2, X10_price G va (nI q) (nI k) = some (nI (PrB w h n cells pull hx hy sz codes k q), va2) := by
  have c1 := x_shownQ M S B hk hq
  have c2 := x_shownK M S B hk
  have c3 := x_shownD M S B hk
  have hw := S.1.2
  have hh := S.2.1.2
  have hm : w * h ≤ 12 * 8 := Nat.mul_le_mul hw hh
  have hc : cnB w h (skB w h n cells pull (hx k) (hy k)) q ≤ w * h := cntN_le _ _
  have e0 : nI (PrB w h n cells pull hx hy sz codes k q) = prc (stk codes (vsF (cnB w h (skB w h n cells pull (hx k) (hy k)) q) (kdB w h (skB w h n cells pull (hx k) (hy k))) (dpB w h (spB w h n cells pull (hx k) (hy k))) k) sz 0) := (PPr_spec _ _ _).2.symm
  rw [e0]
  obtain ⟨c, ec⟩ : ∃ z, z = cnB w h (skB w h n cells pull (hx k) (hy k)) q := ⟨_, rfl⟩
  obtain ⟨kd, ekd⟩ : ∃ z, z = kdB w h (skB w h n cells pull (hx k) (hy k)) := ⟨_, rfl⟩
  obtain ⟨dp, edp⟩ : ∃ z, z = dpB w h (spB w h n cells pull (hx k) (hy k)) := ⟨_, rfl⟩
  rw [← ec] at c1 hc
  rw [← ekd] at c2
  rw [← edp] at c3
  rw [← ec, ← ekd, ← edp]
  unfold X10_price
  rw [c1, q_bn1]
  rcases X with ⟨z5, d8⟩ | ⟨z5, d8, d9, hrow, hl, hg⟩
  · rcases Q with ⟨-, esz, h0, h1, h2⟩ | ⟨d8', -⟩
    · have e3 := prc_none ⟨c, by omega⟩
      rw [if_pos z5, esz, stk_none h0 h1 h2, show vsF c kd dp k 0 = nI c from rfl]
      refine ⟨va, ?_⟩
      rw [show prc (comb (-nI 43) (nI 1) (nI c)) = nI (1 + c) from e3, nI_1, Nat.add_comm]
    · exact absurd (d8.symm.trans d8') ne01
  · rcases Q with ⟨d8', -⟩ | ⟨-, D9, D⟩
    · exact absurd (d8'.symm.trans d8) ne01
    · have hr := rOf_le codes sz
      have hp := P.1
      have hpl := pfx_len (shK G) (shN G) 3 1
      have e9 : rOf codes sz = (pfx (shK G) (shN G) 3 1).length := (nI_eq (by omega) (by omega)).mp (D9.symm.trans d9)
      rw [stk_all (vs := vsF c kd dp k) hg hl e9 D hrow]
      rw [if_neg z5, st_ok (by decide), c2, q_bn1, st_ok (by decide), c3, q_bn1, st_ok (by decide), st_ok (by decide)]
      obtain ⟨b, eb⟩ : ∃ b : Nat → Int64, b = vp_updL (vp_updL (vp_updL (vp_updL va (0 : Int32).toNatClampNeg (nI c).toInt64) (1 : Int32).toNatClampNeg (nI kd).toInt64) (2 : Int32).toNatClampNeg (nI dp).toInt64) (3 : Int32).toNatClampNeg (nI k).toInt64 := ⟨_, rfl⟩
      rw [← eb]
      have hv : ∀ j, j < 4 → b j = (vsF c kd dp k j).toInt64 := fun j hj => by
        rw [eb]
        rcases (show j = 0 ∨ j = 1 ∨ j = 2 ∨ j = 3 by omega) with e | e | e | e <;> subst e <;> rfl
      rw [x_value hg hv 3 1 (wfT_3 hl), q_bn1, s_nm, s_nm]
      refine ⟨b, ?_⟩
      unfold prc limC
      rw [show (999 : Int32).toInt64 = (999 : Int64) by decide +kernel, show (0 : Int32).toInt64 = (0 : Int64) by decide +kernel]
end XP
