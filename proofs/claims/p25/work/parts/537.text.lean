/-! NUMBERS: the reference's reader: a text of randomShow, whole -/
section XR
variable {E : Nat} {bytes buffer : Nat → Int32} {tx : Nat → Nat}
/-- the reference's row, when such a text is read -/
theorem rd_text (T : Txt E bytes buffer tx) {sd : Int32} (m : AtT E tx 0 (zT sd)) : ∃ e : Nat, (X7_takeWord [98, 111, 120] (nI E) (nI 0) (nI 0) buffer = some (nI 1, nI 3) ∧ (∀ ns ea : Int32, ∃ p1 p2 n1 n2 n3, X7_number (nI E) (nI 3) (nI 0) ea ns buffer (1 : Int32) (12 : Int32) = some (nI (zW sd), p1, nI 0, ea, n1) ∧ X7_number (nI E) p1 (nI 0) ea n1 buffer (1 : Int32) (8 : Int32) = some (nI (zH sd), p2, nI 0, ea, n2) ∧ X7_number (nI E) p2 (nI 0) ea n2 buffer (1 : Int32) (5 : Int32) = some (nI (zN sd), nI e, nI 0, ea, n3) ∧ X7_expect (nI E) (nI e) (nI 0) ea buffer (59 : Int32) = some (nI (e + 1), nI 0, ea))) ∧
    ∀ d : Nat → Int32, BegD (zW sd) (zH sd) (zN sd) (zN sd) 0 d → ∃ (N : Nat) (sn told : Int32) (d' : Nat → Int32), N ≤ 100 ∧ Rd E buffer N (e + 1) 0 (nI 0) d (zT sd).length sn told d' ∧ d' 3 = nI (zO sd) ∧ d' 7 = nI (zG sd) ∧ ∀ dd : Nat → Int32, (dd 3 = nI (hlN (zO sd)) ∧ ∀ j, j ≠ 3 → dd j = d' j) → DG dd (zL sd) := by
  have hE := T.1
  have hw : 1 ≤ zW sd ∧ zW sd ≤ 6 := by unfold zW; omega
  have hh : 1 ≤ zH sd ∧ zH sd ≤ 4 := by unfold zH; omega
  have hn : 1 ≤ zN sd ∧ zN sd ≤ 4 := by unfold zN; omega
  have hD : zD sd ≤ zN sd := by unfold zD; have := Nat.mod_lt (rnV (rnS (rnS (rnS sd)))) (show 0 < zN sd + 1 by omega); omega
  have hO : zO sd ≤ 3 := by unfold zO; omega
  have hV : zG sd ≤ 5 := by unfold zG; omega
  have mz := m
  unfold zT at mz
  obtain ⟨m1, mP⟩ := mz.app
  obtain ⟨m2, mG⟩ := m1.app
  obtain ⟨m3, mR⟩ := m2.app
  obtain ⟨m4, mH⟩ := m3.app
  obtain ⟨m5, mL⟩ := m4.app
  obtain ⟨m6, m59⟩ := m5.app
  obtain ⟨mb, mn⟩ := m6.app
  have hn3 : numT (fun j => if j = 0 then zW sd else if j = 1 then zH sd else zN sd) 3 = [32] ++ dcs (zW sd) ++ ([32] ++ dcs (zH sd)) ++ ([32] ++ dcs (zN sd)) := numT_3 _
  rw [hn3] at mn m59 mL mH mR mG mP
  obtain ⟨mn2, mn3⟩ := mn.app
  obtain ⟨mn1, mn2⟩ := mn2.app
  obtain ⟨e, ee⟩ : ∃ e, e = 3 + 1 + (dcs (zW sd)).length + 1 + (dcs (zH sd)).length + 1 + (dcs (zN sd)).length := ⟨_, rfl⟩
  have m59 : AtT E tx e [59] := m59.to (by simp only [List.length_append, List.length_cons, List.length_nil]; omega)
  have hq9 := m59.1
  have hq9 : e + 1 ≤ E := hq9
  have h59 : tx e = 59 := m59.at T (j := 0) (Nat.succ_pos _) rfl (by decide)
  have a1 : AtT E tx 3 ([32] ++ dcs (zW sd)) := mn1.to rfl
  have a2 : AtT E tx (3 + 1 + (dcs (zW sd)).length) ([32] ++ dcs (zH sd)) := mn2.to (by simp only [List.length_append, List.length_cons, List.length_nil]; omega)
  have a3 : AtT E tx (3 + 1 + (dcs (zW sd)).length + 1 + (dcs (zH sd)).length) ([32] ++ dcs (zN sd)) := mn3.to (by simp only [List.length_append, List.length_cons, List.length_nil]; omega)
  refine ⟨e, ⟨(r_boxTxt T 0 0 ⟨hw.1, by omega⟩ ⟨hh.1, by omega⟩ ⟨hn.1, by omega⟩ mb a1 a2 a3 ee (by omega) h59).1, fun ns ea => (r_boxTxt T ns ea ⟨hw.1, by omega⟩ ⟨hh.1, by omega⟩ ⟨hn.1, by omega⟩ mb a1 a2 a3 ee (by omega) h59).2⟩, fun d B => ?_⟩
  have B9 := B
  obtain ⟨b0, b1, b2, b3, b4, b5, b6, b7, b8⟩ := B9
  obtain ⟨lP, eP⟩ : ∃ z, z = (plT (zN sd) (zW sd) (zH sd) (z4 sd) (zD sd)).length := ⟨_, rfl⟩
  obtain ⟨lH, eH⟩ : ∃ z, z = (hlT (zW sd) (zH sd) (rnS (z5 sd)) (zO sd)).length := ⟨_, rfl⟩
  obtain ⟨lR, eR⟩ : ∃ z, z = (reT (z6 sd)).length := ⟨_, rfl⟩
  obtain ⟨lG, eG⟩ : ∃ z, z = (gsT (rnS (z7 sd)) (zG sd)).length := ⟨_, rfl⟩
  have hlen : (zT sd).length = e + 1 + lP + lH + lR + lG + (prT (z8 sd)).length := by
    unfold zT
    rw [hn3, eP, eH, eR, eG]
    simp only [List.length_append, List.length_cons, List.length_nil]; omega
  have mL : AtT E tx (e + 1) (plT (zN sd) (zW sd) (zH sd) (z4 sd) (zD sd)) := mL.to (by simp only [List.length_append, List.length_cons, List.length_nil]; omega)
  have mH : AtT E tx (e + 1 + lP) (hlT (zW sd) (zH sd) (rnS (z5 sd)) (zO sd)) := mH.to (by simp only [List.length_append, List.length_cons, List.length_nil]; omega)
  have mR : AtT E tx (e + 1 + lP + lH) (reT (z6 sd)) := mR.to (by simp only [List.length_append, List.length_cons, List.length_nil]; omega)
  have mG : AtT E tx (e + 1 + lP + lH + lR) (gsT (rnS (z7 sd)) (zG sd)) := mG.to (by simp only [List.length_append, List.length_cons, List.length_nil]; omega)
  have mP : AtT E tx (e + 1 + lP + lH + lR + lG) (prT (z8 sd)) := mP.to (by simp only [List.length_append, List.length_cons, List.length_nil]; omega)
  obtain ⟨d1, r1, o1, c1⟩ := rd_planes T (s := z4 sd) (n := zN sd) ⟨hw.1, by omega⟩ ⟨hh.1, by omega⟩ ⟨hn.1, by omega⟩ (0 : Int32) b0 b1 b2 (zD sd) hD mL
  rw [← eP] at r1
  obtain ⟨d2, r2, c2, o2, k2⟩ := rd_holes T (s := rnS (z5 sd)) (w := zW sd) (hh := zH sd) ⟨hw.1, by omega⟩ ⟨hh.1, by omega⟩ (0 : Int32) (nI (zD sd)) ((o1 0 (Or.inl (by decide))).trans b0) ((o1 1 (Or.inl (by decide))).trans b1) ((o1 3 (Or.inl (by decide))).trans b3) (zO sd) (by omega) mH
  rw [← eH] at r2
  obtain ⟨n3, sn3, d3, hn3', r3, s3, c34, c35, o3⟩ := rd_reach T (s := z6 sd) (nI (zD sd)) ((o2 4 (by decide) (Or.inl (by decide))).trans ((o1 4 (Or.inl (by decide))).trans b4)) ((o2 5 (by decide) (Or.inl (by decide))).trans ((o1 5 (Or.inl (by decide))).trans b5)) mR
  rw [← eR] at r3
  obtain ⟨d4, r4, c47, o4, k4⟩ := rd_viewers T (s := rnS (z7 sd)) sn3 (nI (zD sd)) ((o3 7 (by decide) (by decide)).trans ((o2 7 (by decide) (Or.inl (by decide))).trans ((o1 7 (Or.inl (by decide))).trans (b6 7 (by decide) (by decide))))) (zG sd) (by omega) mG
  rw [← eG] at r4
  have o14 : ∀ j, j ≠ 3 → j ≠ 4 → j ≠ 5 → j ≠ 7 → (j < 495 ∨ 643 ≤ j) → d4 j = d1 j := fun j h3 h4 h5 h7 hj => (o4 j h7 (by omega)).trans ((o3 j h4 h5).trans (o2 j h3 (by omega)))
  obtain ⟨n5, sn5, d5, hn5', r5, o5, k5⟩ := rd_price T (s := z8 sd) s3 (told := nI (zD sd)) ((o14 8 (by decide) (by decide) (by decide) (by decide) (Or.inl (by decide))).trans ((o1 8 (Or.inl (by decide))).trans (b6 8 (by decide) (by decide)))) ((o14 9 (by decide) (by decide) (by decide) (by decide) (Or.inl (by decide))).trans ((o1 9 (Or.inl (by decide))).trans (b6 9 (by decide) (by decide)))) mP
  refine ⟨zD sd + zO sd + n3 + zG sd + n5, sn5, nI (zD sd), d5, by omega, ?_, ?_, ?_, fun dd hdd => ?_⟩
  · rw [hlen]
    exact (((r1.trans r2).trans r3).trans r4).trans r5
  · rw [o5 3 (by decide) (by decide) (by decide), o4 3 (by decide) (Or.inl (by decide)), o3 3 (by decide) (by decide)]; exact c2
  · rw [o5 7 (by decide) (by decide) (by decide)]; exact c47
  · obtain ⟨dd3, ddo⟩ := hdd
    have q5 : ∀ j, j ≠ 3 → j ≠ 8 → j ≠ 9 → j < 643 → dd j = d4 j := fun j h3 h8 h9 hj => (ddo j h3).trans (o5 j h8 h9 hj)
    have q4 : ∀ j, j < 3 ∨ j = 6 ∨ (10 ≤ j ∧ j < 495) → dd j = d1 j := fun j hj => (q5 j (by omega) (by omega) (by omega) (by omega)).trans (o14 j (by omega) (by omega) (by omega) (by omega) (Or.inl (by omega)))
    refine ⟨⟨?_, ?_, ?_, dd3, ?_⟩, ⟨?_, ?_, ?_, ?_, ?_⟩, ⟨?_, ?_, ?_⟩, fun p hp => ?_, fun p hp y hy => ?_, fun k hk => ?_, fun v hv j hj => ?_, ?_⟩
    · exact (q4 0 (by decide)).trans ((o1 0 (Or.inl (by decide))).trans b0)
    · exact (q4 1 (by decide)).trans ((o1 1 (Or.inl (by decide))).trans b1)
    · exact (q4 2 (by decide)).trans ((o1 2 (Or.inl (by decide))).trans b2)
    · exact (q5 7 (by decide) (by decide) (by decide) (by decide)).trans c47
    · show zW sd ≤ 12; omega
    · show zH sd ≤ 8; omega
    · show zN sd ≤ 5; omega
    · show hlN (zO sd) ≤ 4; unfold hlN; split <;> omega
    · show zG sd ≤ 20; omega
    · exact (q5 4 (by decide) (by decide) (by decide) (by decide)).trans ((o4 4 (by decide) (Or.inl (by decide))).trans c34)
    · exact (q5 5 (by decide) (by decide) (by decide) (by decide)).trans ((o4 5 (by decide) (Or.inl (by decide))).trans c35)
    · exact (q4 6 (by decide)).trans ((o1 6 (Or.inl (by decide))).trans (b6 6 (by decide) (by decide)))
    · have hp : p < zN sd := hp
      exact (q4 (10 + p) (by omega)).trans ((o1 (10 + p) (Or.inl (by omega))).trans (b6 (10 + p) (by omega) (by omega)))
    · have hp : p < zN sd := hp
      have hy : y < zH sd := hy
      have hwy : zW sd * (y + 1) ≤ zW sd * zH sd := Nat.mul_le_mul_left _ hy
      have e1 : zW sd * (y + 1) = zW sd * y + zW sd := Nat.mul_succ _ y
      have hwh : zW sd * zH sd ≤ 6 * 4 := Nat.mul_le_mul hw.2 hh.2
      have hX : shT (zL sd) p y = if p < zD sd ∨ (p = zD sd ∧ y < 0) then rsT (zN sd) (zW sd) (zH sd) (z4 sd) p y else List.replicate (zW sd) (lyC (zN sd) p) := rfl
      rw [hX]
      by_cases c : p < zD sd
      · rw [if_pos (Or.inl c)]
        refine ⟨rsL_len .., fun x hx => ?_⟩
        have hx : x < zW sd := hx
        rw [c1 p c y hy x hx]
        show _ = chC (dd (15 + 96 * p + zW sd * y + x))
        rw [q4 _ (by omega)]
      · rw [if_neg (by omega)]
        refine ⟨List.length_replicate, fun x hx => ?_⟩
        have hx : x < zW sd := hx
        show _ = chC (dd (15 + 96 * p + zW sd * y + x))
        rw [q4 _ (by omega), o1 _ (Or.inr (by omega)), Nat.add_assoc, b8 p hp (zW sd * y + x) (by omega) (Or.inl hp), List.getD_eq_getElem?_getD, List.getElem?_replicate, if_pos hx]
        unfold lyC
        by_cases c2 : p + 1 < zN sd
        · rw [if_pos c2, if_neg (by omega)]; rfl
        · rw [if_neg c2, if_pos (by omega)]; rfl
    · have hk : k < hlN (zO sd) := hk
      have hk4 : k < 4 := by unfold hlN at hk; split at hk <;> omega
      have f1 : dd (495 + 2 * k) = d2 (495 + 2 * k) := (q5 _ (by omega) (by omega) (by omega) (by omega)).trans ((o4 _ (by omega) (Or.inl (by omega))).trans (o3 _ (by omega) (by omega)))
      have f2 : dd (495 + 2 * k + 1) = d2 (495 + 2 * k + 1) := (q5 _ (by omega) (by omega) (by omega) (by omega)).trans ((o4 _ (by omega) (Or.inl (by omega))).trans (o3 _ (by omega) (by omega)))
      rw [f1, f2]
      show _ = hlE (zW sd) (zH sd) (rnS (z5 sd)) (zO sd) k 0 ∧ _ = hlE (zW sd) (zH sd) (rnS (z5 sd)) (zO sd) k 1
      unfold hlE
      by_cases c : zO sd = 0
      · rw [if_pos c]
        rw [o2 _ (by omega) (Or.inr (by omega)), o2 _ (by omega) (Or.inr (by omega)), o1 _ (Or.inr (by omega)), o1 _ (Or.inr (by omega)), b7 _ (by omega) (by omega), b7 _ (by omega) (by omega)]
        exact ⟨rfl, rfl⟩
      · rw [if_neg c]
        have hk3 : k < zO sd := by unfold hlN at hk; rw [if_neg c] at hk; exact hk
        rw [(k2 k hk3).1, (k2 k hk3).2]
        unfold hlF
        exact ⟨by rw [pk_un (by decide), pk_us], pk_us.symm⟩
    · have hv : v < zG sd := hv
      exact (q5 _ (by omega) (by omega) (by omega) (by omega)).trans (k4 v hv j hj)
    · exact (k5 (zL sd) rfl rfl rfl).congr (fun j hj => ddo j (by omega)) rfl rfl rfl
end XR
