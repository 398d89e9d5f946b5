/-! THE LAW: the mean is a number -/
theorem mean_nn {v : UInt32} (h : v &&& 0x7fffffff ≤ 0x7f800000) : vf_n64 (FP.f2d v) ∧ FP.dcmp (FP.f2d v) (FP.f2d v) = some .eq := by
  have h1 : FP.Core.fIsNaN v = false := by
    refine (FP.Core.notNaN_iff32 _).mpr ((FP.Core.ne_nan32 _).mpr ?_)
    rw [UInt32.le_iff_toNat_le, UInt32.toNat_and, show (0x7fffffff : UInt32).toNat = 2 ^ 31 - 1 from by decide, show (0x7f800000 : UInt32).toNat = 2139095040 from by decide, Nat.and_two_pow_sub_one_eq_mod] at h
    exact h
  have hc : FP.f2d v = FP.Core.f2d v := by
    unfold FP.f2d
    rw [h1]
    rfl
  have h2 : FP.Core.dIsNaN (FP.f2d v) = false := by rw [hc]; exact FP.Core.f2d_out h1
  have h3 := (FP.Core.notNaN_iff _).mp h2
  refine ⟨?_, FP.Core.dcmp_self h3⟩
  have h4 := (FP.Core.ne_nan _).mp h3
  unfold vf_n64
  rw [UInt64.le_iff_toNat_le, UInt64.toNat_and, show (0x7fffffffffffffff : UInt64).toNat = 2 ^ 63 - 1 from by decide, show (0x7ff0000000000000 : UInt64).toNat = 9218868437227405312 from by decide, Nat.and_two_pow_sub_one_eq_mod]
  exact h4
theorem m_meanPaidN {w h n HN sz V LL rc : Nat} {pull hx hy : Nat → Nat} {cells pulls holeX holeY codes : Nat → Int32} {ti : Int32} {lk fa d : Nat → Int32} (N : ShowN w h n HN sz V LL rc pull hx hy cells pulls holeX holeY codes ti lk fa d) (o : Int32) : ∃ v, X6_meanPaid (nI V) fa = some v ∧ X7_meanPaid o d = some (v, nI 0) ∧ v &&& 0x7fffffff ≤ 0x7f800000 := by
  obtain ⟨-, -, ⟨b1, b2, b3, b4, b5⟩, ⟨d4, d5, d6, d7⟩, I, VR⟩ := N
  unfold X6_meanPaid X7_meanPaid
  rw [q_b1 (q_stN fa b3 2), q_b1 (r_stN b3 d7 VR 2)]
  by_cases c : nI (stN fa V 2) = 0
  · rw [if_pos c, if_pos c]
    exact ⟨_, rfl, rfl, by decide⟩
  · rw [if_neg c, if_neg c, q_b1 (q_paidI fa b3), q_b1 (r_paidI b3 d7 VR), q_b1 (r_stN b3 d7 VR 2), q_ck (fdiv_nn c), q_ck (fdiv_nn c)]
    exact ⟨_, rfl, rfl, fdiv_nn c⟩
theorem f_meanPaidN {st : St} {rf : Rf} (R : RAll st rf) (o : Int32) : ∃ v9, X6_meanPaid (Sh.viewers (St.now st)) (Sh.facts (St.now st)) = some v9 ∧ X7_meanPaid o (Rf.data rf) = some (v9, nI 0) ∧ v9 &&& 0x7fffffff ≤ 0x7f800000 := by
  obtain ⟨⟨w, h, n, HN, sz, V, LL, rc, pull, hx, hy, e1, e2, e3, e4, e5, e6, e7, e8, N, VO, P⟩, -⟩ := R
  simp only [e7]
  exact m_meanPaidN N o
