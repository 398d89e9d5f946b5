/-! NUMBERS: the changes: the class' numbers keep to the show's (st.py) -/
theorem pfx_len1 (K : Nat → Nat) (N : Nat → Int32) (i : Nat) : (pfx K N 1 i).length ≤ 2 := by
  rw [pfx]
  split
  · exact Nat.le_refl _
  · show 1 ≤ 2; decide
theorem pfx_len2 (K : Nat → Nat) (N : Nat → Int32) (i : Nat) : (pfx K N 2 i).length ≤ 5 := by
  rw [pfx]
  split
  · show 2 ≤ 5; decide
  · have h1 := pfx_len1 K N (2 * i)
    have h2 := pfx_len1 K N (2 * i + 1)
    rw [List.length_append, List.length_append]
    show _ + _ + 1 ≤ 5
    omega
theorem pfx_len (K : Nat → Nat) (N : Nat → Int32) (d i : Nat) (hd : d = 3 := by rfl) : (pfx K N d i).length ≤ 11 := by
  subst hd
  rw [pfx]
  split
  · show 2 ≤ 11; decide
  · have h1 := pfx_len2 K N (2 * i)
    have h2 := pfx_len2 K N (2 * i + 1)
    rw [List.length_append, List.length_append]
    show _ + _ + 1 ≤ 11
    omega
theorem DG.congr {d e : Nat → Int32} {G : LG} (D : DG d G) (h : ∀ j, j < 2243 → e j = d j) : DG e G := by
  obtain ⟨⟨g0, g1, g2, g3, g7⟩, ⟨l0, l1, l2, l3, l4⟩, ⟨i0, i1, i2⟩, gP, gT, gH, gG, gX⟩ := D
  refine ⟨⟨by rw [h _ (by decide)]; exact g0, by rw [h _ (by decide)]; exact g1, by rw [h _ (by decide)]; exact g2, by rw [h _ (by decide)]; exact g3, by rw [h _ (by decide)]; exact g7⟩, ⟨l0, l1, l2, l3, l4⟩, ⟨by rw [h _ (by decide)]; exact i0, by rw [h _ (by decide)]; exact i1, by rw [h _ (by decide)]; exact i2⟩, fun p hp => by rw [h _ (by omega)]; exact gP p hp, fun p hp y hy => ⟨(gT p hp y hy).1, fun x hx => ?_⟩, fun k hk => ⟨by rw [h _ (by omega)]; exact (gH k hk).1, by rw [h _ (by omega)]; exact (gH k hk).2⟩, fun v hv j hj => by rw [h _ (by omega)]; exact gG v hv j hj, ?_⟩
  · have hy8 : shZ G 0 * y ≤ 12 * 7 := Nat.mul_le_mul l0 (by omega)
    rw [h _ (by omega)]
    exact (gT p hp y hy).2 x hx
  · rcases gX with ⟨x1, x2⟩ | ⟨x1, x2, x3, x4, x5, x6⟩
    · exact Or.inl ⟨x1, by rw [h _ (by decide)]; exact x2⟩
    · have hl := pfx_len (shK G) (shN G) 3 1
      exact Or.inr ⟨x1, by rw [h _ (by decide)]; exact x2, by rw [h _ (by decide)]; exact x3, fun j hj => by rw [h _ (by omega)]; exact x4 j hj, x5, x6⟩
/-- the rows below the viewers and behind them stay -/
theorem PX.congr {d e : Nat → Int32} {G G2 : LG} (D : PX d G) (h : ∀ j, (j = 8 ∨ j = 9 ∨ (643 ≤ j ∧ j < 2243)) → e j = d j) (h5 : shZ G2 5 = shZ G 5) (hK : shK G2 = shK G) (hN : shN G2 = shN G) : PX e G2 := by
  unfold PX
  rw [h5, hK, hN]
  rcases D with ⟨x1, x2⟩ | ⟨x1, x2, x3, x4, x5, x6⟩
  · exact Or.inl ⟨x1, by rw [h _ (Or.inl rfl)]; exact x2⟩
  · have hl := pfx_len (shK G) (shN G) 3 1
    exact Or.inr ⟨x1, by rw [h _ (Or.inl rfl)]; exact x2, by rw [h _ (Or.inr (Or.inl rfl))]; exact x3, fun j hj => by rw [h _ (by omega)]; exact x4 j hj, x5, x6⟩
theorem DG.pull {d : Nat → Int32} {G : LG} (D : DG d G) {p : Nat} (r : Nat) (hp : p < shZ G 2) : DG (upd d (10 + p) (nI r)) (shPu G p r) := by
  obtain ⟨⟨g0, g1, g2, g3, g7⟩, ⟨l0, l1, l2, l3, l4⟩, ⟨i0, i1, i2⟩, gP, gT, gH, gG, gX⟩ := D
  have o : ∀ j, j ≠ 10 + p → upd d (10 + p) (nI r) j = d j := fun j hj => pk_un hj
  refine ⟨⟨by rw [o _ (by omega)]; exact g0, by rw [o _ (by omega)]; exact g1, by rw [o _ (by omega)]; exact g2, by rw [o _ (by omega)]; exact g3, by rw [o _ (by omega)]; exact g7⟩, ⟨l0, l1, l2, l3, l4⟩, ⟨by rw [o _ (by omega)]; exact i0, by rw [o _ (by omega)]; exact i1, by rw [o _ (by omega)]; exact i2⟩, fun q hq => ?_, fun q hq y hy => ⟨(gT q hq y hy).1, fun x hx => ?_⟩, fun k hk => ⟨by rw [o _ (by omega)]; exact (gH k hk).1, by rw [o _ (by omega)]; exact (gH k hk).2⟩, fun v hv j hj => by rw [o _ (by omega)]; exact gG v hv j hj, gX.congr (fun j hj => o _ (by omega)) rfl rfl rfl⟩
  · show upd d (10 + p) (nI r) (10 + q) = upd (shP G) p (nI r) q
    by_cases e : q = p
    · rw [e, pk_us, pk_us]
    · rw [pk_un (by omega), pk_un e]; exact gP q hq
  · have hp5 : 10 + p < 15 := by omega
    rw [o _ (by omega)]
    exact (gT q hq y hy).2 x hx
theorem DG.len {d : Nat → Int32} {G : LG} (D : DG d G) (l : Nat) : DG (upd d 5 (nI l)) (shLe G l) := by
  obtain ⟨⟨g0, g1, g2, g3, g7⟩, ⟨l0, l1, l2, l3, l4⟩, ⟨i0, i1, i2⟩, gP, gT, gH, gG, gX⟩ := D
  have o : ∀ j, j ≠ 5 → upd d 5 (nI l) j = d j := fun j hj => pk_un hj
  exact ⟨⟨by rw [o _ (by omega)]; exact g0, by rw [o _ (by omega)]; exact g1, by rw [o _ (by omega)]; exact g2, by rw [o _ (by omega)]; exact g3, by rw [o _ (by omega)]; exact g7⟩, ⟨l0, l1, l2, l3, l4⟩, ⟨by rw [o _ (by omega)]; exact i0, pk_us, by rw [o _ (by omega)]; exact i2⟩, fun p hp => by rw [o _ (by omega)]; exact gP p hp, fun p hp y hy => ⟨(gT p hp y hy).1, fun x hx => by rw [o _ (by omega)]; exact (gT p hp y hy).2 x hx⟩, fun k hk => ⟨by rw [o _ (by omega)]; exact (gH k hk).1, by rw [o _ (by omega)]; exact (gH k hk).2⟩, fun v hv j hj => by rw [o _ (by omega)]; exact gG v hv j hj, gX.congr (fun j hj => o _ (by omega)) rfl rfl rfl⟩
theorem addD_7 {d : Nat → Int32} {V a q c : Nat} : addD d V a q c 7 = nI (V + 1) := pk_us
theorem addD_old {d : Nat → Int32} {V a q c v j : Nat} (hv : v < V) (hj : j < 7) : addD d V a q c (503 + 7 * v + j) = d (503 + 7 * v + j) := by
  unfold addD
  rw [pk_un (by omega), pk_un (by omega), pk_un (by omega), pk_un (by omega), pk_un (by omega), pk_un (by omega), pk_un (by omega), pk_un (by omega)]
theorem addD_new {d : Nat → Int32} {V a q c j : Nat} (hj : j < 7) : addD d V a q c (503 + 7 * V + j) = gNew (nI a) (nI q) (nI c) j := by
  unfold addD
  rcases (show j = 0 ∨ j = 1 ∨ j = 2 ∨ j = 3 ∨ j = 4 ∨ j = 5 ∨ j = 6 by omega) with e | e | e | e | e | e | e <;> subst e
  · rw [pk_un (by omega), pk_un (by omega), pk_un (by omega), pk_un (by omega), pk_un (by omega), pk_un (by omega), pk_un (by omega), Nat.add_zero, pk_us]; rfl
  · rw [pk_un (by omega), pk_un (by omega), pk_un (by omega), pk_un (by omega), pk_un (by omega), pk_un (by omega), pk_us]; rfl
  · rw [pk_un (by omega), pk_un (by omega), pk_un (by omega), pk_un (by omega), pk_un (by omega), pk_us]; rfl
  · rw [pk_un (by omega), pk_un (by omega), pk_un (by omega), pk_un (by omega), pk_us]; rfl
  · rw [pk_un (by omega), pk_un (by omega), pk_un (by omega), pk_us]; rfl
  · rw [pk_un (by omega), pk_un (by omega), pk_us]; rfl
  · rw [pk_un (by omega), pk_us]; rfl
theorem DG.come {d : Nat → Int32} {G : LG} (D : DG d G) (a q c : Nat) (hV : shZ G 4 < 20) : DG (addD d (shZ G 4) a q c) (shCo G (gNew (nI a) (nI q) (nI c))) := by
  obtain ⟨⟨g0, g1, g2, g3, g7⟩, ⟨l0, l1, l2, l3, l4⟩, ⟨i0, i1, i2⟩, gP, gT, gH, gG, gX⟩ := D
  have o : ∀ j, (j < 503 ∨ 643 ≤ j) → j ≠ 7 → addD d (shZ G 4) a q c j = d j := fun j h1 h2 => addD_o hV h1 h2
  refine ⟨⟨by rw [o _ (by omega) (by omega)]; exact g0, by rw [o _ (by omega) (by omega)]; exact g1, by rw [o _ (by omega) (by omega)]; exact g2, by rw [o _ (by omega) (by omega)]; exact g3, addD_7⟩, ⟨l0, l1, l2, l3, hV⟩, ⟨by rw [o _ (by omega) (by omega)]; exact i0, by rw [o _ (by omega) (by omega)]; exact i1, by rw [o _ (by omega) (by omega)]; exact i2⟩, fun p hp => ?_, fun p hp y hy => ⟨(gT p hp y hy).1, fun x hx => ?_⟩, fun k hk => ?_, fun v hv j hj => ?_, gX.congr (fun j hj => o _ (by omega) (by omega)) rfl rfl rfl⟩
  · have hp : p < shZ G 2 := hp
    rw [o _ (by omega) (by omega)]; exact gP p hp
  · have hp : p < shZ G 2 := hp
    have hy : y < shZ G 1 := hy
    have hx : x < shZ G 0 := hx
    have hy8 : shZ G 0 * y ≤ 12 * 7 := Nat.mul_le_mul l0 (by omega)
    show _ = chC (addD d (shZ G 4) a q c (15 + 96 * p + shZ G 0 * y + x))
    rw [o _ (by omega) (by omega)]; exact (gT p hp y hy).2 x hx
  · have hk : k < shZ G 3 := hk
    exact ⟨by rw [o _ (by omega) (by omega)]; exact (gH k hk).1, by rw [o _ (by omega) (by omega)]; exact (gH k hk).2⟩
  · have hv : v < shZ G 4 + 1 := hv
    show _ = (if v = shZ G 4 then gNew (nI a) (nI q) (nI c) else shG G v) j
    by_cases e : v = shZ G 4
    · rw [if_pos e, e, addD_new hj]
    · rw [if_neg e, addD_old (by omega) hj]
      exact gG v (by omega) j hj
/-- the class' numbers are those of the show G, and of the k shows hs before it -/
def RQ (st : St) (G : LG) (hs : Nat → LG) (k : Nat) : Prop := ∃ rf : Rf, RAll st rf ∧ DG (Rf.data rf) G ∧ Rf.undoDepth rf = nI k ∧ k ≤ 8 ∧ St.filled st = nI 0 ∧ ∀ j, j < k → DG (hsel (Rf.h0 rf) (Rf.h1 rf) (Rf.h2 rf) (Rf.h3 rf) (Rf.h4 rf) (Rf.h5 rf) (Rf.h6 rf) (Rf.h7 rf) (k - 1 - j)) (hs j)
theorem hist_push {u : Nat} {d r0 r1 r2 r3 r4 r5 r6 r7 q0 q1 q2 q3 q4 q5 q6 q7 : Nat → Int32} {G : LG} {hs : Nat → LG} (hu : u ≤ 8) (hq : ∀ k, k < min (u + 1) 8 → ∀ j, j < 2243 → hsel q0 q1 q2 q3 q4 q5 q6 q7 k j = (if k + 1 = min (u + 1) 8 then d j else hsel r0 r1 r2 r3 r4 r5 r6 r7 (if u = 8 then k + 1 else k) j)) (D : DG d G) (hh : ∀ j, j < u → DG (hsel r0 r1 r2 r3 r4 r5 r6 r7 (u - 1 - j)) (hs j)) : ∀ j, j < min (u + 1) 8 → DG (hsel q0 q1 q2 q3 q4 q5 q6 q7 (min (u + 1) 8 - 1 - j)) (hpush G hs j) := by
  intro j hj
  have h1 := hq (min (u + 1) 8 - 1 - j) (by omega)
  match j with
  | 0 => exact D.congr (fun i hi => by rw [h1 i hi, if_pos (by omega)])
  | j + 1 =>
    refine (hh j (by omega)).congr (fun i hi => ?_)
    rw [h1 i hi, if_neg (by omega)]
    congr 1
    by_cases e : u = 8
    · rw [if_pos e]; first | omega | (congr 1; omega)
    · rw [if_neg e]; first | omega | (congr 1; omega)
theorem r_pullO {w h n HN sz V LL rc : Nat} {pull hx hy : Nat → Nat} {cells pulls holeX holeY codes : Nat → Int32} {ti : Int32} {lk fa d : Nat → Int32} (N : ShowN w h n HN sz V LL rc pull hx hy cells pulls holeX holeY codes ti lk fa d) (o : Int32) {u p r : Nat} (hu : u ≤ 8) (hp : p + 1 < n) (hr : r ≤ h) (r0 r1 r2 r3 r4 r5 r6 r7 : Nat → Int32) : ∃ q0 q1 q2 q3 q4 q5 q6 q7, X7_pull o (nI u) d r0 r1 r2 r3 r4 r5 r6 r7 (nI p) (nI r) = some (nI (pull p), nI 0, nI (min (u + 1) 8), upd d (10 + p) (nI r), q0, q1, q2, q3, q4, q5, q6, q7) ∧ ∀ k, k < min (u + 1) 8 → ∀ j, j < 2243 → hsel q0 q1 q2 q3 q4 q5 q6 q7 k j = (if k + 1 = min (u + 1) 8 then d j else hsel r0 r1 r2 r3 r4 r5 r6 r7 (if u = 8 then k + 1 else k) j) := by
  obtain ⟨q0, q1, q2, q3, q4, q5, q6, q7, hm, hq⟩ := r_remember d r0 r1 r2 r3 r4 r5 r6 r7 hu
  obtain ⟨⟨S, B, C, R⟩, -⟩ := N
  have s2 := S.2.1
  have s3 := S.2.2.1
  refine ⟨q0, q1, q2, q3, q4, q5, q6, q7, ?_, hq⟩
  unfold X7_pull
  rcases q_reqPlane (nI p) s3.1 (by omega) with ⟨a, b⟩ | ⟨p', hp', e', a, b⟩
  · exact absurd a (by unfold X6_requirePlane; simp (disch := omega) only [s_lit, s_b0, s_b1, s_b2, s_b3, s_b4, s_b5, s_b6, s_x0, s_x0l, s_t1, s_nm, s_ckT, s_ld, s_st, s_clamp, nI_add, pk_mul, s_sub, s_nad, s_div, s_mod, s_rem2, s_le_t, s_le_f, s_lt_t, s_lt_f, s_eq_t, s_eq_f, s_n1, s_n2, s_n3, s_n4, s_n5, s_n6, s_n7, s_n8, s_n9, s_n10, s_n11, s_n12, s_us, s_un, s_uLs, s_uLn, ↓reduceIte, not_false_eq_true, not_true_eq_false, true_and, and_true, and_self, or_false, false_or, or_self, true_or, or_true, false_and, and_false, Int32.neg_neg, Nat.add_zero, Nat.zero_add, Nat.reduceSub, Nat.reduceAdd, Nat.reduceMul, Nat.reduceLeDiff]; exact fun z => by cases z)
  · have b := b d R.2.2.1
    rcases q_reqRange (nI r) 0 h (by omega) (by omega) with ⟨a2, b2⟩ | ⟨r', _, hr', e2', a2, b2⟩
    · exact absurd a2 (by unfold X6_requireRange; simp (disch := omega) only [s_lit, s_b0, s_b1, s_b2, s_b3, s_b4, s_b5, s_b6, s_x0, s_x0l, s_t1, s_nm, s_ckT, s_ld, s_st, s_clamp, nI_add, pk_mul, s_sub, s_nad, s_div, s_mod, s_rem2, s_le_t, s_le_f, s_lt_t, s_lt_f, s_eq_t, s_eq_f, s_n1, s_n2, s_n3, s_n4, s_n5, s_n6, s_n7, s_n8, s_n9, s_n10, s_n11, s_n12, s_us, s_un, s_uLs, s_uLn, ↓reduceIte, not_false_eq_true, not_true_eq_false, true_and, and_true, and_self, or_false, false_or, or_self, true_or, or_true, false_and, and_false, Int32.neg_neg, Nat.add_zero, Nat.zero_add, Nat.reduceSub, Nat.reduceAdd, Nat.reduceMul, Nat.reduceLeDiff]; exact fun z => by cases z)
    · have hv := R.2.2.2.2.1 p (by omega)
      simp (disch := omega) only [s_lit, s_b0, s_b1, s_b2, s_b3, s_b4, s_b5, s_b6, s_x0, s_x0l, s_t1, s_nm, s_ckT, s_ld, s_st, s_clamp, nI_add, pk_mul, s_sub, s_nad, s_div, s_mod, s_rem2, s_le_t, s_le_f, s_lt_t, s_lt_f, s_eq_t, s_eq_f, s_n1, s_n2, s_n3, s_n4, s_n5, s_n6, s_n7, s_n8, s_n9, s_n10, s_n11, s_n12, s_us, s_un, s_uLs, s_uLn, ↓reduceIte, not_false_eq_true, not_true_eq_false, true_and, and_true, and_self, or_false, false_or, or_self, true_or, or_true, false_and, and_false, Int32.neg_neg, Nat.add_zero, Nat.zero_add, Nat.reduceSub, Nat.reduceAdd, Nat.reduceMul, Nat.reduceLeDiff, b, R.2.1, R.2.2.1, b2, X7_pull_J33, X7_pull_J58, X7_fails, X7_fails_J16]
      rw [q_b9 hm]
      simp (disch := omega) only [s_lit, s_b0, s_b1, s_b2, s_b3, s_b4, s_b5, s_b6, s_x0, s_x0l, s_t1, s_nm, s_ckT, s_ld, s_st, s_clamp, nI_add, pk_mul, s_sub, s_nad, s_div, s_mod, s_rem2, s_le_t, s_le_f, s_lt_t, s_lt_f, s_eq_t, s_eq_f, s_n1, s_n2, s_n3, s_n4, s_n5, s_n6, s_n7, s_n8, s_n9, s_n10, s_n11, s_n12, s_us, s_un, s_uLs, s_uLn, ↓reduceIte, not_false_eq_true, not_true_eq_false, true_and, and_true, and_self, or_false, false_or, or_self, true_or, or_true, false_and, and_false, Int32.neg_neg, Nat.add_zero, Nat.zero_add, Nat.reduceSub, Nat.reduceAdd, Nat.reduceMul, Nat.reduceLeDiff, hv]
theorem r_pull1 {w h n HN sz V LL rc : Nat} {pull hx hy : Nat → Nat} {cells pulls holeX holeY codes : Nat → Int32} {ti : Int32} {lk fa d : Nat → Int32} (N : ShowN w h n HN sz V LL rc pull hx hy cells pulls holeX holeY codes ti lk fa d) (o : Int32) {u p : Nat} (r : Int32) (hp : n ≤ p) (hp2 : p < 2 ^ 30) (r0 r1 r2 r3 r4 r5 r6 r7 : Nat → Int32) : X7_pull o (nI u) d r0 r1 r2 r3 r4 r5 r6 r7 (nI p) r = some (nI 0, nI 1, nI u, d, r0, r1, r2, r3, r4, r5, r6, r7) := by
  obtain ⟨⟨S, B, C, R⟩, -⟩ := N
  have s3 := S.2.2.1
  unfold X7_pull
  rcases q_reqPlane (nI p) s3.1 (by omega) with ⟨a, b⟩ | ⟨p', hp', e', a, b⟩
  · have b := b d R.2.2.1
    simp (disch := omega) only [s_lit, s_b0, s_b1, s_b2, s_b3, s_b4, s_b5, s_b6, s_x0, s_x0l, s_t1, s_nm, s_ckT, s_ld, s_st, s_clamp, nI_add, pk_mul, s_sub, s_nad, s_div, s_mod, s_rem2, s_le_t, s_le_f, s_lt_t, s_lt_f, s_eq_t, s_eq_f, s_n1, s_n2, s_n3, s_n4, s_n5, s_n6, s_n7, s_n8, s_n9, s_n10, s_n11, s_n12, s_us, s_un, s_uLs, s_uLn, ↓reduceIte, not_false_eq_true, not_true_eq_false, true_and, and_true, and_self, or_false, false_or, or_self, true_or, or_true, false_and, and_false, Int32.neg_neg, Nat.add_zero, Nat.zero_add, Nat.reduceSub, Nat.reduceAdd, Nat.reduceMul, Nat.reduceLeDiff, b]
  · exact absurd ((nI_eq (by omega) (by omega)).mp e') (by omega)
theorem r_pull2 {w h n HN sz V LL rc : Nat} {pull hx hy : Nat → Nat} {cells pulls holeX holeY codes : Nat → Int32} {ti : Int32} {lk fa d : Nat → Int32} (N : ShowN w h n HN sz V LL rc pull hx hy cells pulls holeX holeY codes ti lk fa d) (o : Int32) {u p r : Nat} (hp : p < n) (hr : h < r) (hr2 : r < 2 ^ 30) (r0 r1 r2 r3 r4 r5 r6 r7 : Nat → Int32) : X7_pull o (nI u) d r0 r1 r2 r3 r4 r5 r6 r7 (nI p) (nI r) = some (nI 0, nI 2, nI u, d, r0, r1, r2, r3, r4, r5, r6, r7) := by
  obtain ⟨⟨S, B, C, R⟩, -⟩ := N
  have s2 := S.2.1
  have s3 := S.2.2.1
  unfold X7_pull
  rcases q_reqPlane (nI p) s3.1 (by omega) with ⟨a, b⟩ | ⟨p', hp', e', a, b⟩
  · exact absurd a (by unfold X6_requirePlane; simp (disch := omega) only [s_lit, s_b0, s_b1, s_b2, s_b3, s_b4, s_b5, s_b6, s_x0, s_x0l, s_t1, s_nm, s_ckT, s_ld, s_st, s_clamp, nI_add, pk_mul, s_sub, s_nad, s_div, s_mod, s_rem2, s_le_t, s_le_f, s_lt_t, s_lt_f, s_eq_t, s_eq_f, s_n1, s_n2, s_n3, s_n4, s_n5, s_n6, s_n7, s_n8, s_n9, s_n10, s_n11, s_n12, s_us, s_un, s_uLs, s_uLn, ↓reduceIte, not_false_eq_true, not_true_eq_false, true_and, and_true, and_self, or_false, false_or, or_self, true_or, or_true, false_and, and_false, Int32.neg_neg, Nat.add_zero, Nat.zero_add, Nat.reduceSub, Nat.reduceAdd, Nat.reduceMul, Nat.reduceLeDiff]; exact fun z => by cases z)
  · have b := b d R.2.2.1
    rcases q_reqRange (nI r) 0 h (by omega) (by omega) with ⟨a2, b2⟩ | ⟨r', _, hr', e2', a2, b2⟩
    · simp (disch := omega) only [s_lit, s_b0, s_b1, s_b2, s_b3, s_b4, s_b5, s_b6, s_x0, s_x0l, s_t1, s_nm, s_ckT, s_ld, s_st, s_clamp, nI_add, pk_mul, s_sub, s_nad, s_div, s_mod, s_rem2, s_le_t, s_le_f, s_lt_t, s_lt_f, s_eq_t, s_eq_f, s_n1, s_n2, s_n3, s_n4, s_n5, s_n6, s_n7, s_n8, s_n9, s_n10, s_n11, s_n12, s_us, s_un, s_uLs, s_uLn, ↓reduceIte, not_false_eq_true, not_true_eq_false, true_and, and_true, and_self, or_false, false_or, or_self, true_or, or_true, false_and, and_false, Int32.neg_neg, Nat.add_zero, Nat.zero_add, Nat.reduceSub, Nat.reduceAdd, Nat.reduceMul, Nat.reduceLeDiff, b, R.2.1, b2, X7_pull_J33, X7_fails, X7_fails_J16]
    · exact absurd ((nI_eq (by omega) (by omega)).mp e2') (by omega)
theorem r_pull3 {w h n HN sz V LL rc : Nat} {pull hx hy : Nat → Nat} {cells pulls holeX holeY codes : Nat → Int32} {ti : Int32} {lk fa d : Nat → Int32} (N : ShowN w h n HN sz V LL rc pull hx hy cells pulls holeX holeY codes ti lk fa d) (o : Int32) {u p r : Nat} (hp : p + 1 = n) (hr : r ≤ h) (r0 r1 r2 r3 r4 r5 r6 r7 : Nat → Int32) : X7_pull o (nI u) d r0 r1 r2 r3 r4 r5 r6 r7 (nI p) (nI r) = some (nI 0, nI 3, nI u, d, r0, r1, r2, r3, r4, r5, r6, r7) := by
  obtain ⟨⟨S, B, C, R⟩, -⟩ := N
  have s2 := S.2.1
  have s3 := S.2.2.1
  unfold X7_pull
  rcases q_reqPlane (nI p) s3.1 (by omega) with ⟨a, b⟩ | ⟨p', hp', e', a, b⟩
  · exact absurd a (by unfold X6_requirePlane; simp (disch := omega) only [s_lit, s_b0, s_b1, s_b2, s_b3, s_b4, s_b5, s_b6, s_x0, s_x0l, s_t1, s_nm, s_ckT, s_ld, s_st, s_clamp, nI_add, pk_mul, s_sub, s_nad, s_div, s_mod, s_rem2, s_le_t, s_le_f, s_lt_t, s_lt_f, s_eq_t, s_eq_f, s_n1, s_n2, s_n3, s_n4, s_n5, s_n6, s_n7, s_n8, s_n9, s_n10, s_n11, s_n12, s_us, s_un, s_uLs, s_uLn, ↓reduceIte, not_false_eq_true, not_true_eq_false, true_and, and_true, and_self, or_false, false_or, or_self, true_or, or_true, false_and, and_false, Int32.neg_neg, Nat.add_zero, Nat.zero_add, Nat.reduceSub, Nat.reduceAdd, Nat.reduceMul, Nat.reduceLeDiff]; exact fun z => by cases z)
  · have b := b d R.2.2.1
    rcases q_reqRange (nI r) 0 h (by omega) (by omega) with ⟨a2, b2⟩ | ⟨r', _, hr', e2', a2, b2⟩
    · exact absurd a2 (by unfold X6_requireRange; simp (disch := omega) only [s_lit, s_b0, s_b1, s_b2, s_b3, s_b4, s_b5, s_b6, s_x0, s_x0l, s_t1, s_nm, s_ckT, s_ld, s_st, s_clamp, nI_add, pk_mul, s_sub, s_nad, s_div, s_mod, s_rem2, s_le_t, s_le_f, s_lt_t, s_lt_f, s_eq_t, s_eq_f, s_n1, s_n2, s_n3, s_n4, s_n5, s_n6, s_n7, s_n8, s_n9, s_n10, s_n11, s_n12, s_us, s_un, s_uLs, s_uLn, ↓reduceIte, not_false_eq_true, not_true_eq_false, true_and, and_true, and_self, or_false, false_or, or_self, true_or, or_true, false_and, and_false, Int32.neg_neg, Nat.add_zero, Nat.zero_add, Nat.reduceSub, Nat.reduceAdd, Nat.reduceMul, Nat.reduceLeDiff]; exact fun z => by cases z)
    · have e : p = n - 1 := by omega
      subst e
      simp (disch := omega) only [s_lit, s_b0, s_b1, s_b2, s_b3, s_b4, s_b5, s_b6, s_x0, s_x0l, s_t1, s_nm, s_ckT, s_ld, s_st, s_clamp, nI_add, pk_mul, s_sub, s_nad, s_div, s_mod, s_rem2, s_le_t, s_le_f, s_lt_t, s_lt_f, s_eq_t, s_eq_f, s_n1, s_n2, s_n3, s_n4, s_n5, s_n6, s_n7, s_n8, s_n9, s_n10, s_n11, s_n12, s_us, s_un, s_uLs, s_uLn, ↓reduceIte, not_false_eq_true, not_true_eq_false, true_and, and_true, and_self, or_false, false_or, or_self, true_or, or_true, false_and, and_false, Int32.neg_neg, Nat.add_zero, Nat.zero_add, Nat.reduceSub, Nat.reduceAdd, Nat.reduceMul, Nat.reduceLeDiff, b, R.2.1, R.2.2.1, b2, X7_pull_J33, X7_pull_J58, X7_fails, X7_fails_J16]
theorem r_lengthO {w h n HN sz V LL rc : Nat} {pull hx hy : Nat → Nat} {cells pulls holeX holeY codes : Nat → Int32} {ti : Int32} {lk fa d : Nat → Int32} (N : ShowN w h n HN sz V LL rc pull hx hy cells pulls holeX holeY codes ti lk fa d) (o : Int32) {u l : Nat} (hu : u ≤ 8) (h1 : 1 ≤ l) (h2 : l ≤ 20) (r0 r1 r2 r3 r4 r5 r6 r7 : Nat → Int32) : ∃ q0 q1 q2 q3 q4 q5 q6 q7, X7_length o (nI u) d r0 r1 r2 r3 r4 r5 r6 r7 (nI l) = some (nI LL, nI 0, nI (min (u + 1) 8), upd d 5 (nI l), q0, q1, q2, q3, q4, q5, q6, q7) ∧ ∀ k, k < min (u + 1) 8 → ∀ j, j < 2243 → hsel q0 q1 q2 q3 q4 q5 q6 q7 k j = (if k + 1 = min (u + 1) 8 then d j else hsel r0 r1 r2 r3 r4 r5 r6 r7 (if u = 8 then k + 1 else k) j) := by
  obtain ⟨q0, q1, q2, q3, q4, q5, q6, q7, hm, hq⟩ := r_remember d r0 r1 r2 r3 r4 r5 r6 r7 hu
  refine ⟨q0, q1, q2, q3, q4, q5, q6, q7, ?_, hq⟩
  unfold X7_length
  rcases q_reqRange (nI l) 1 20 (by omega) (by omega) with ⟨a, b⟩ | ⟨l', k1, k2, e, a, b⟩
  · exact absurd a (by unfold X6_requireRange; simp (disch := omega) only [s_lit, s_b0, s_b1, s_b2, s_b3, s_b4, s_b5, s_b6, s_x0, s_x0l, s_t1, s_nm, s_ckT, s_ld, s_st, s_clamp, nI_add, pk_mul, s_sub, s_nad, s_div, s_mod, s_rem2, s_le_t, s_le_f, s_lt_t, s_lt_f, s_eq_t, s_eq_f, s_n1, s_n2, s_n3, s_n4, s_n5, s_n6, s_n7, s_n8, s_n9, s_n10, s_n11, s_n12, s_us, s_un, s_uLs, s_uLn, ↓reduceIte, not_false_eq_true, not_true_eq_false, true_and, and_true, and_self, or_false, false_or, or_self, true_or, or_true, false_and, and_false, Int32.neg_neg, Nat.add_zero, Nat.zero_add, Nat.reduceSub, Nat.reduceAdd, Nat.reduceMul, Nat.reduceLeDiff]; exact fun z => by cases z)
  · simp (disch := omega) only [s_lit, s_b0, s_b1, s_b2, s_b3, s_b4, s_b5, s_b6, s_x0, s_x0l, s_t1, s_nm, s_ckT, s_ld, s_st, s_clamp, nI_add, pk_mul, s_sub, s_nad, s_div, s_mod, s_rem2, s_le_t, s_le_f, s_lt_t, s_lt_f, s_eq_t, s_eq_f, s_n1, s_n2, s_n3, s_n4, s_n5, s_n6, s_n7, s_n8, s_n9, s_n10, s_n11, s_n12, s_us, s_un, s_uLs, s_uLn, ↓reduceIte, not_false_eq_true, not_true_eq_false, true_and, and_true, and_self, or_false, false_or, or_self, true_or, or_true, false_and, and_false, Int32.neg_neg, Nat.add_zero, Nat.zero_add, Nat.reduceSub, Nat.reduceAdd, Nat.reduceMul, Nat.reduceLeDiff, b, X7_length_J21, X7_fails, X7_fails_J16]
    rw [q_b9 hm]
    simp (disch := omega) only [s_lit, s_b0, s_b1, s_b2, s_b3, s_b4, s_b5, s_b6, s_x0, s_x0l, s_t1, s_nm, s_ckT, s_ld, s_st, s_clamp, nI_add, pk_mul, s_sub, s_nad, s_div, s_mod, s_rem2, s_le_t, s_le_f, s_lt_t, s_lt_f, s_eq_t, s_eq_f, s_n1, s_n2, s_n3, s_n4, s_n5, s_n6, s_n7, s_n8, s_n9, s_n10, s_n11, s_n12, s_us, s_un, s_uLs, s_uLn, ↓reduceIte, not_false_eq_true, not_true_eq_false, true_and, and_true, and_self, or_false, false_or, or_self, true_or, or_true, false_and, and_false, Int32.neg_neg, Nat.add_zero, Nat.zero_add, Nat.reduceSub, Nat.reduceAdd, Nat.reduceMul, Nat.reduceLeDiff, N.2.2.2.1.2.1]
theorem r_length1 {d : Nat → Int32} (o : Int32) {u l : Nat} (hl : l = 0 ∨ 20 < l) (hl2 : l < 2 ^ 30) (r0 r1 r2 r3 r4 r5 r6 r7 : Nat → Int32) : X7_length o (nI u) d r0 r1 r2 r3 r4 r5 r6 r7 (nI l) = some (nI 0, nI 1, nI u, d, r0, r1, r2, r3, r4, r5, r6, r7) := by
  unfold X7_length
  rcases q_reqRange (nI l) 1 20 (by omega) (by omega) with ⟨a, b⟩ | ⟨l', k1, k2, e, a, b⟩
  · simp (disch := omega) only [s_lit, s_b0, s_b1, s_b2, s_b3, s_b4, s_b5, s_b6, s_x0, s_x0l, s_t1, s_nm, s_ckT, s_ld, s_st, s_clamp, nI_add, pk_mul, s_sub, s_nad, s_div, s_mod, s_rem2, s_le_t, s_le_f, s_lt_t, s_lt_f, s_eq_t, s_eq_f, s_n1, s_n2, s_n3, s_n4, s_n5, s_n6, s_n7, s_n8, s_n9, s_n10, s_n11, s_n12, s_us, s_un, s_uLs, s_uLn, ↓reduceIte, not_false_eq_true, not_true_eq_false, true_and, and_true, and_self, or_false, false_or, or_self, true_or, or_true, false_and, and_false, Int32.neg_neg, Nat.add_zero, Nat.zero_add, Nat.reduceSub, Nat.reduceAdd, Nat.reduceMul, Nat.reduceLeDiff, b, X7_length_J21, X7_fails, X7_fails_J16]
  · exact absurd ((nI_eq (by omega) (by omega)).mp e) (by omega)
theorem r_comeO {w h n HN sz V LL rc : Nat} {pull hx hy : Nat → Nat} {cells pulls holeX holeY codes : Nat → Int32} {ti : Int32} {lk fa d : Nat → Int32} (N : ShowN w h n HN sz V LL rc pull hx hy cells pulls holeX holeY codes ti lk fa d) (o : Int32) {u a q c : Nat} (hu : u ≤ 8) (ha : a ≤ 9) (hq26 : q ≤ 25) (hc : c ≤ 999) (hV2 : V < 20) (r0 r1 r2 r3 r4 r5 r6 r7 : Nat → Int32) : ∃ q0 q1 q2 q3 q4 q5 q6 q7, X7_come o (nI u) d r0 r1 r2 r3 r4 r5 r6 r7 (nI a) (nI q) (nI c) = some (nI V, nI 0, nI (min (u + 1) 8), addD d V a q c, q0, q1, q2, q3, q4, q5, q6, q7) ∧ ∀ k, k < min (u + 1) 8 → ∀ j, j < 2243 → hsel q0 q1 q2 q3 q4 q5 q6 q7 k j = (if k + 1 = min (u + 1) 8 then d j else hsel r0 r1 r2 r3 r4 r5 r6 r7 (if u = 8 then k + 1 else k) j) := by
  obtain ⟨q0, q1, q2, q3, q4, q5, q6, q7, hm, hq⟩ := r_remember d r0 r1 r2 r3 r4 r5 r6 r7 hu
  refine ⟨q0, q1, q2, q3, q4, q5, q6, q7, ?_, hq⟩
  have h7 := N.2.2.2.1.2.2.2
  unfold X7_come
  rcases q_reqRange (nI a) 0 9 (by omega) (by omega) with ⟨a1, b⟩ | ⟨x1, _, k1, e1, a1, b⟩
  · exact absurd a1 (by unfold X6_requireRange; simp (disch := omega) only [s_lit, s_b0, s_b1, s_b2, s_b3, s_b4, s_b5, s_b6, s_x0, s_x0l, s_t1, s_nm, s_ckT, s_ld, s_st, s_clamp, nI_add, pk_mul, s_sub, s_nad, s_div, s_mod, s_rem2, s_le_t, s_le_f, s_lt_t, s_lt_f, s_eq_t, s_eq_f, s_n1, s_n2, s_n3, s_n4, s_n5, s_n6, s_n7, s_n8, s_n9, s_n10, s_n11, s_n12, s_us, s_un, s_uLs, s_uLn, ↓reduceIte, not_false_eq_true, not_true_eq_false, true_and, and_true, and_self, or_false, false_or, or_self, true_or, or_true, false_and, and_false, Int32.neg_neg, Nat.add_zero, Nat.zero_add, Nat.reduceSub, Nat.reduceAdd, Nat.reduceMul, Nat.reduceLeDiff]; exact fun z => by cases z)
  · rcases q_reqRange (nI q) 0 25 (by omega) (by omega) with ⟨a2, b2⟩ | ⟨x2, _, k2, e2, a2, b2⟩
    · exact absurd a2 (by unfold X6_requireRange; simp (disch := omega) only [s_lit, s_b0, s_b1, s_b2, s_b3, s_b4, s_b5, s_b6, s_x0, s_x0l, s_t1, s_nm, s_ckT, s_ld, s_st, s_clamp, nI_add, pk_mul, s_sub, s_nad, s_div, s_mod, s_rem2, s_le_t, s_le_f, s_lt_t, s_lt_f, s_eq_t, s_eq_f, s_n1, s_n2, s_n3, s_n4, s_n5, s_n6, s_n7, s_n8, s_n9, s_n10, s_n11, s_n12, s_us, s_un, s_uLs, s_uLn, ↓reduceIte, not_false_eq_true, not_true_eq_false, true_and, and_true, and_self, or_false, false_or, or_self, true_or, or_true, false_and, and_false, Int32.neg_neg, Nat.add_zero, Nat.zero_add, Nat.reduceSub, Nat.reduceAdd, Nat.reduceMul, Nat.reduceLeDiff]; exact fun z => by cases z)
    · rcases q_reqRange (nI c) 0 999 (by omega) (by omega) with ⟨a3, b3⟩ | ⟨x3, _, k3, e3, a3, b3⟩
      · exact absurd a3 (by unfold X6_requireRange; simp (disch := omega) only [s_lit, s_b0, s_b1, s_b2, s_b3, s_b4, s_b5, s_b6, s_x0, s_x0l, s_t1, s_nm, s_ckT, s_ld, s_st, s_clamp, nI_add, pk_mul, s_sub, s_nad, s_div, s_mod, s_rem2, s_le_t, s_le_f, s_lt_t, s_lt_f, s_eq_t, s_eq_f, s_n1, s_n2, s_n3, s_n4, s_n5, s_n6, s_n7, s_n8, s_n9, s_n10, s_n11, s_n12, s_us, s_un, s_uLs, s_uLn, ↓reduceIte, not_false_eq_true, not_true_eq_false, true_and, and_true, and_self, or_false, false_or, or_self, true_or, or_true, false_and, and_false, Int32.neg_neg, Nat.add_zero, Nat.zero_add, Nat.reduceSub, Nat.reduceAdd, Nat.reduceMul, Nat.reduceLeDiff]; exact fun z => by cases z)
      · have hadd := r_add (a := a) (q := q) (c := c) hV2 h7
        have h77 : addD d V a q c 7 = nI (V + 1) := pk_us
        simp (disch := omega) only [s_lit, s_b0, s_b1, s_b2, s_b3, s_b4, s_b5, s_b6, s_x0, s_x0l, s_t1, s_nm, s_ckT, s_ld, s_st, s_clamp, nI_add, pk_mul, s_sub, s_nad, s_div, s_mod, s_rem2, s_le_t, s_le_f, s_lt_t, s_lt_f, s_eq_t, s_eq_f, s_n1, s_n2, s_n3, s_n4, s_n5, s_n6, s_n7, s_n8, s_n9, s_n10, s_n11, s_n12, s_us, s_un, s_uLs, s_uLn, ↓reduceIte, not_false_eq_true, not_true_eq_false, true_and, and_true, and_self, or_false, false_or, or_self, true_or, or_true, false_and, and_false, Int32.neg_neg, Nat.add_zero, Nat.zero_add, Nat.reduceSub, Nat.reduceAdd, Nat.reduceMul, Nat.reduceLeDiff, b, b2, b3, h7, X7_come_J42, X7_come_J67, X7_fails, X7_fails_J16]
        rw [q_b9 hm]
        simp (disch := omega) only [s_lit, s_b0, s_b1, s_b2, s_b3, s_b4, s_b5, s_b6, s_x0, s_x0l, s_t1, s_nm, s_ckT, s_ld, s_st, s_clamp, nI_add, pk_mul, s_sub, s_nad, s_div, s_mod, s_rem2, s_le_t, s_le_f, s_lt_t, s_lt_f, s_eq_t, s_eq_f, s_n1, s_n2, s_n3, s_n4, s_n5, s_n6, s_n7, s_n8, s_n9, s_n10, s_n11, s_n12, s_us, s_un, s_uLs, s_uLn, ↓reduceIte, not_false_eq_true, not_true_eq_false, true_and, and_true, and_self, or_false, false_or, or_self, true_or, or_true, false_and, and_false, Int32.neg_neg, Nat.add_zero, Nat.zero_add, Nat.reduceSub, Nat.reduceAdd, Nat.reduceMul, Nat.reduceLeDiff, hadd, h77, Nat.add_sub_cancel]
theorem r_come1 {d : Nat → Int32} (o : Int32) {u a q c : Nat} (hx : 9 < a ∨ 25 < q) (ha : a < 2 ^ 30) (hq : q < 2 ^ 30) (hc : c ≤ 999) (r0 r1 r2 r3 r4 r5 r6 r7 : Nat → Int32) : X7_come o (nI u) d r0 r1 r2 r3 r4 r5 r6 r7 (nI a) (nI q) (nI c) = some (nI 0, nI 1, nI u, d, r0, r1, r2, r3, r4, r5, r6, r7) := by
  unfold X7_come
  rcases q_reqRange (nI a) 0 9 (by omega) (by omega) with ⟨a1, b⟩ | ⟨x1, _, k1, e1, a1, b⟩
  · simp (disch := omega) only [s_lit, s_b0, s_b1, s_b2, s_b3, s_b4, s_b5, s_b6, s_x0, s_x0l, s_t1, s_nm, s_ckT, s_ld, s_st, s_clamp, nI_add, pk_mul, s_sub, s_nad, s_div, s_mod, s_rem2, s_le_t, s_le_f, s_lt_t, s_lt_f, s_eq_t, s_eq_f, s_n1, s_n2, s_n3, s_n4, s_n5, s_n6, s_n7, s_n8, s_n9, s_n10, s_n11, s_n12, s_us, s_un, s_uLs, s_uLn, ↓reduceIte, not_false_eq_true, not_true_eq_false, true_and, and_true, and_self, or_false, false_or, or_self, true_or, or_true, false_and, and_false, Int32.neg_neg, Nat.add_zero, Nat.zero_add, Nat.reduceSub, Nat.reduceAdd, Nat.reduceMul, Nat.reduceLeDiff, b, X7_come_J37, X7_come_J42, X7_fails, X7_fails_J16]
  · rcases q_reqRange (nI q) 0 25 (by omega) (by omega) with ⟨a2, b2⟩ | ⟨x2, _, k2, e2, a2, b2⟩
    · simp (disch := omega) only [s_lit, s_b0, s_b1, s_b2, s_b3, s_b4, s_b5, s_b6, s_x0, s_x0l, s_t1, s_nm, s_ckT, s_ld, s_st, s_clamp, nI_add, pk_mul, s_sub, s_nad, s_div, s_mod, s_rem2, s_le_t, s_le_f, s_lt_t, s_lt_f, s_eq_t, s_eq_f, s_n1, s_n2, s_n3, s_n4, s_n5, s_n6, s_n7, s_n8, s_n9, s_n10, s_n11, s_n12, s_us, s_un, s_uLs, s_uLn, ↓reduceIte, not_false_eq_true, not_true_eq_false, true_and, and_true, and_self, or_false, false_or, or_self, true_or, or_true, false_and, and_false, Int32.neg_neg, Nat.add_zero, Nat.zero_add, Nat.reduceSub, Nat.reduceAdd, Nat.reduceMul, Nat.reduceLeDiff, b, b2, X7_come_J37, X7_come_J42, X7_fails, X7_fails_J16]
    · have := (nI_eq (by omega) (by omega)).mp e1
      have := (nI_eq (by omega) (by omega)).mp e2
      omega
theorem r_come2 {w h n HN sz V LL rc : Nat} {pull hx hy : Nat → Nat} {cells pulls holeX holeY codes : Nat → Int32} {ti : Int32} {lk fa d : Nat → Int32} (N : ShowN w h n HN sz V LL rc pull hx hy cells pulls holeX holeY codes ti lk fa d) (o : Int32) {u a q c : Nat} (ha : a ≤ 9) (hq26 : q ≤ 25) (hc : c ≤ 999) (hV2 : 20 ≤ V) (r0 r1 r2 r3 r4 r5 r6 r7 : Nat → Int32) : X7_come o (nI u) d r0 r1 r2 r3 r4 r5 r6 r7 (nI a) (nI q) (nI c) = some (nI 0, nI 2, nI u, d, r0, r1, r2, r3, r4, r5, r6, r7) := by
  have h7 := N.2.2.2.1.2.2.2
  have hV := N.2.2.1.2.2.1
  have eV : V = 20 := by omega
  rw [eV] at h7
  unfold X7_come
  rcases q_reqRange (nI a) 0 9 (by omega) (by omega) with ⟨a1, b⟩ | ⟨x1, _, k1, e1, a1, b⟩
  · exact absurd a1 (by unfold X6_requireRange; simp (disch := omega) only [s_lit, s_b0, s_b1, s_b2, s_b3, s_b4, s_b5, s_b6, s_x0, s_x0l, s_t1, s_nm, s_ckT, s_ld, s_st, s_clamp, nI_add, pk_mul, s_sub, s_nad, s_div, s_mod, s_rem2, s_le_t, s_le_f, s_lt_t, s_lt_f, s_eq_t, s_eq_f, s_n1, s_n2, s_n3, s_n4, s_n5, s_n6, s_n7, s_n8, s_n9, s_n10, s_n11, s_n12, s_us, s_un, s_uLs, s_uLn, ↓reduceIte, not_false_eq_true, not_true_eq_false, true_and, and_true, and_self, or_false, false_or, or_self, true_or, or_true, false_and, and_false, Int32.neg_neg, Nat.add_zero, Nat.zero_add, Nat.reduceSub, Nat.reduceAdd, Nat.reduceMul, Nat.reduceLeDiff]; exact fun z => by cases z)
  · rcases q_reqRange (nI q) 0 25 (by omega) (by omega) with ⟨a2, b2⟩ | ⟨x2, _, k2, e2, a2, b2⟩
    · exact absurd a2 (by unfold X6_requireRange; simp (disch := omega) only [s_lit, s_b0, s_b1, s_b2, s_b3, s_b4, s_b5, s_b6, s_x0, s_x0l, s_t1, s_nm, s_ckT, s_ld, s_st, s_clamp, nI_add, pk_mul, s_sub, s_nad, s_div, s_mod, s_rem2, s_le_t, s_le_f, s_lt_t, s_lt_f, s_eq_t, s_eq_f, s_n1, s_n2, s_n3, s_n4, s_n5, s_n6, s_n7, s_n8, s_n9, s_n10, s_n11, s_n12, s_us, s_un, s_uLs, s_uLn, ↓reduceIte, not_false_eq_true, not_true_eq_false, true_and, and_true, and_self, or_false, false_or, or_self, true_or, or_true, false_and, and_false, Int32.neg_neg, Nat.add_zero, Nat.zero_add, Nat.reduceSub, Nat.reduceAdd, Nat.reduceMul, Nat.reduceLeDiff]; exact fun z => by cases z)
    · rcases q_reqRange (nI c) 0 999 (by omega) (by omega) with ⟨a3, b3⟩ | ⟨x3, _, k3, e3, a3, b3⟩
      · exact absurd a3 (by unfold X6_requireRange; simp (disch := omega) only [s_lit, s_b0, s_b1, s_b2, s_b3, s_b4, s_b5, s_b6, s_x0, s_x0l, s_t1, s_nm, s_ckT, s_ld, s_st, s_clamp, nI_add, pk_mul, s_sub, s_nad, s_div, s_mod, s_rem2, s_le_t, s_le_f, s_lt_t, s_lt_f, s_eq_t, s_eq_f, s_n1, s_n2, s_n3, s_n4, s_n5, s_n6, s_n7, s_n8, s_n9, s_n10, s_n11, s_n12, s_us, s_un, s_uLs, s_uLn, ↓reduceIte, not_false_eq_true, not_true_eq_false, true_and, and_true, and_self, or_false, false_or, or_self, true_or, or_true, false_and, and_false, Int32.neg_neg, Nat.add_zero, Nat.zero_add, Nat.reduceSub, Nat.reduceAdd, Nat.reduceMul, Nat.reduceLeDiff]; exact fun z => by cases z)
      · simp (disch := omega) only [s_lit, s_b0, s_b1, s_b2, s_b3, s_b4, s_b5, s_b6, s_x0, s_x0l, s_t1, s_nm, s_ckT, s_ld, s_st, s_clamp, nI_add, pk_mul, s_sub, s_nad, s_div, s_mod, s_rem2, s_le_t, s_le_f, s_lt_t, s_lt_f, s_eq_t, s_eq_f, s_n1, s_n2, s_n3, s_n4, s_n5, s_n6, s_n7, s_n8, s_n9, s_n10, s_n11, s_n12, s_us, s_un, s_uLs, s_uLn, ↓reduceIte, not_false_eq_true, not_true_eq_false, true_and, and_true, and_self, or_false, false_or, or_self, true_or, or_true, false_and, and_false, Int32.neg_neg, Nat.add_zero, Nat.zero_add, Nat.reduceSub, Nat.reduceAdd, Nat.reduceMul, Nat.reduceLeDiff, b, b2, b3, h7, X7_come_J42, X7_come_J67, X7_fails, X7_fails_J16]
theorem st_pull {st : St} {G : LG} {hs : Nat → LG} {k : Nat} (R : RQ st G hs k) {p r : Nat} (hp : p + 1 < shZ G 2) (hr : r ≤ shZ G 1) : ∃ st2, OP_pull st (nI p) (nI r) (shP G p) st2 ∧ RQ st2 (shPu G p r) (hpush G hs) (min (k + 1) 8) := by
  obtain ⟨rf, RA, D, hud, hk8, hfil, hh⟩ := R
  obtain ⟨w, h, n, HN, sz, V, LL, rc, pull, hx, hy, e1, e2, e3, e4, e5, e6, e7, e8, N, Vw, P⟩ := id RA.1
  have M := NG_of N D
  obtain ⟨z0, z1, z2, z3, z4⟩ := id M.1
  obtain ⟨q0, q1, q2, q3, q4, q5, q6, q7, hX, hq⟩ := r_pullO N 0 hk8 (show p + 1 < n by omega) (show r ≤ h by omega) (Rf.h0 rf) (Rf.h1 rf) (Rf.h2 rf) (Rf.h3 rf) (Rf.h4 rf) (Rf.h5 rf) (Rf.h6 rf) (Rf.h7 rf)
  obtain ⟨np, hn, h9 | h9⟩ := f_pull RA (nI p) (nI r) 0
  · obtain ⟨v9, c1, c2, c3, c4, c5, c6, c7, c8, c9, c10, c11, c12, c13, c14, c15, c16, c17, c18, c19, c20, c21, c22, c23, c24, d2, d3, d4, d5, d6, d7, d8, d9, d10, d11, g1, g2, g3⟩ := h9
    rw [hud, hX] at g2
    simp only [Option.some.injEq, Prod.mk.injEq] at g2
    obtain ⟨rfl, -, rfl, rfl, rfl, rfl, rfl, rfl, rfl, rfl, rfl, rfl⟩ := g2
    exact ⟨_, Or.inl ⟨np, _, c1, c2, c3, c4, c5, c6, c7, c8, c9, c10, c11, c12, c13, c14, c15, c16, c17, c18, c19, c20, c21, c22, c23, c24, hn, g1, M.2.2.1 p (by omega), rfl⟩, _, g3, D.pull r (by omega), rfl, Nat.min_le_right _ _, hfil, hist_push hk8 hq D hh⟩
  · obtain ⟨e9, t9, b, ht, g1, g2⟩ := h9
    rw [hud, hX] at g2
    simp only [Option.some.injEq, Prod.mk.injEq] at g2
    obtain ⟨-, ht9, -⟩ := g2
    have := (nI_eq (by decide) (by omega)).mp ht9
    omega
theorem st_length {st : St} {G : LG} {hs : Nat → LG} {k : Nat} (R : RQ st G hs k) {l : Nat} (h1 : 1 ≤ l) (h2 : l ≤ 20) : ∃ st2, OP_length st (nI l) (shI G 1) st2 ∧ RQ st2 (shLe G l) (hpush G hs) (min (k + 1) 8) := by
  obtain ⟨rf, RA, D, hud, hk8, hfil, hh⟩ := R
  obtain ⟨w, h, n, HN, sz, V, LL, rc, pull, hx, hy, e1, e2, e3, e4, e5, e6, e7, e8, N, Vw, P⟩ := id RA.1
  have M := NG_of N D
  obtain ⟨z0, z1, z2, z3, z4⟩ := id M.1
  obtain ⟨q0, q1, q2, q3, q4, q5, q6, q7, hX, hq⟩ := r_lengthO N 0 hk8 h1 h2 (Rf.h0 rf) (Rf.h1 rf) (Rf.h2 rf) (Rf.h3 rf) (Rf.h4 rf) (Rf.h5 rf) (Rf.h6 rf) (Rf.h7 rf)
  obtain ⟨np, hn, h9 | h9⟩ := f_length RA (nI l) 0
  · obtain ⟨v9, c1, c2, c3, c4, c5, c6, c7, c8, c9, c10, c11, c12, c13, c14, c15, c16, c17, c18, c19, d2, d3, d4, d5, d6, d7, d8, d9, d10, d11, g1, g2, g3⟩ := h9
    rw [hud, hX] at g2
    simp only [Option.some.injEq, Prod.mk.injEq] at g2
    obtain ⟨rfl, -, rfl, rfl, rfl, rfl, rfl, rfl, rfl, rfl, rfl, rfl⟩ := g2
    exact ⟨_, Or.inl ⟨np, _, c1, c2, c3, c4, c5, c6, c7, c8, c9, c10, c11, c12, c13, c14, c15, c16, c17, c18, c19, hn, g1, M.2.1.2.1, rfl⟩, _, g3, D.len l, rfl, Nat.min_le_right _ _, hfil, hist_push hk8 hq D hh⟩
  · obtain ⟨e9, t9, b, ht, g1, g2⟩ := h9
    rw [hud, hX] at g2
    simp only [Option.some.injEq, Prod.mk.injEq] at g2
    obtain ⟨-, ht9, -⟩ := g2
    have := (nI_eq (by decide) (by omega)).mp ht9
    omega
theorem st_come {st : St} {G : LG} {hs : Nat → LG} {k : Nat} (R : RQ st G hs k) {a q c : Nat} (h1 : a ≤ 9) (h2 : q ≤ 25) (h3 : c ≤ 999) (h4 : shZ G 4 < 20) : ∃ st2, OP_come st (nI a) (nI q) (nI c) (nI (shZ G 4)) st2 ∧ RQ st2 (shCo G (gNew (nI a) (nI q) (nI c))) (hpush G hs) (min (k + 1) 8) := by
  obtain ⟨rf, RA, D, hud, hk8, hfil, hh⟩ := R
  obtain ⟨w, h, n, HN, sz, V, LL, rc, pull, hx, hy, e1, e2, e3, e4, e5, e6, e7, e8, N, Vw, P⟩ := id RA.1
  have M := NG_of N D
  obtain ⟨z0, z1, z2, z3, z4⟩ := id M.1
  obtain ⟨q0, q1, q2, q3, q4, q5, q6, q7, hX, hq⟩ := r_comeO N 0 hk8 h1 h2 h3 (show V < 20 by omega) (Rf.h0 rf) (Rf.h1 rf) (Rf.h2 rf) (Rf.h3 rf) (Rf.h4 rf) (Rf.h5 rf) (Rf.h6 rf) (Rf.h7 rf)
  obtain ⟨np, hn, h9 | h9⟩ := f_come RA (nI a) (nI q) (nI c) 0
  · obtain ⟨v9, c1, c2, c3, c4, c5, c6, c7, c8, c9, c10, c11, c12, c13, c14, c15, c16, c17, c18, c19, c20, d2, d3, d4, d5, d6, d7, d8, d9, d10, d11, g1, g2, g3⟩ := h9
    rw [hud, hX] at g2
    simp only [Option.some.injEq, Prod.mk.injEq] at g2
    obtain ⟨rfl, -, rfl, rfl, rfl, rfl, rfl, rfl, rfl, rfl, rfl, rfl⟩ := g2
    exact ⟨_, Or.inl ⟨np, _, c1, c2, c3, c4, c5, c6, c7, c8, c9, c10, c11, c12, c13, c14, c15, c16, c17, c18, c19, c20, hn, g1, (by rw [z4]), rfl⟩, _, g3, (by rw [← z4]; exact D.come a q c h4), rfl, Nat.min_le_right _ _, hfil, hist_push hk8 hq D hh⟩
  · obtain ⟨e9, t9, b, ht, g1, g2⟩ := h9
    rw [hud, hX] at g2
    simp only [Option.some.injEq, Prod.mk.injEq] at g2
    obtain ⟨-, ht9, -⟩ := g2
    have := (nI_eq (by decide) (by omega)).mp ht9
    omega
theorem st_pull1 {st : St} {G : LG} {hs : Nat → LG} {k : Nat} (R : RQ st G hs k) {p r : Nat} (hp : shZ G 2 ≤ p) (hp2 : p < 100) : OP_pull st (nI p) (nI r) (-2000000097) st := by
  obtain ⟨rf, RA, D, hud, hk8, hfil, hh⟩ := R
  obtain ⟨w, h, n, HN, sz, V, LL, rc, pull, hx, hy, e1, e2, e3, e4, e5, e6, e7, e8, N, Vw, P⟩ := id RA.1
  have M := NG_of N D
  obtain ⟨z0, z1, z2, z3, z4⟩ := id M.1
  have hX := r_pull1 (u := k) N 0 (nI r) (show n ≤ p by omega) (by omega) (Rf.h0 rf) (Rf.h1 rf) (Rf.h2 rf) (Rf.h3 rf) (Rf.h4 rf) (Rf.h5 rf) (Rf.h6 rf) (Rf.h7 rf)
  obtain ⟨np, hn, h9 | h9⟩ := f_pull RA (nI p) (nI r) 0
  · obtain ⟨v9, c1, c2, c3, c4, c5, c6, c7, c8, c9, c10, c11, c12, c13, c14, c15, c16, c17, c18, c19, c20, c21, c22, c23, c24, d2, d3, d4, d5, d6, d7, d8, d9, d10, d11, g1, g2, g3⟩ := h9
    rw [hud, hX] at g2
    simp only [Option.some.injEq, Prod.mk.injEq] at g2
    exact absurd g2.2.1 (by decide)
  · obtain ⟨e9, t9, b, ht, g1, g2⟩ := h9
    rw [hud, hX] at g2
    simp only [Option.some.injEq, Prod.mk.injEq] at g2
    have h8 := (nI_eq (by decide) (by omega)).mp g2.2.1
    obtain rfl : e9 = 1 := by omega
    exact Or.inr (Or.inl ⟨np, hn, g1, rfl, rfl⟩)
theorem st_pull2 {st : St} {G : LG} {hs : Nat → LG} {k : Nat} (R : RQ st G hs k) {p r : Nat} (hp : p < shZ G 2) (hr : shZ G 1 < r) (hr2 : r < 100) : OP_pull st (nI p) (nI r) (-2000000098) st := by
  obtain ⟨rf, RA, D, hud, hk8, hfil, hh⟩ := R
  obtain ⟨w, h, n, HN, sz, V, LL, rc, pull, hx, hy, e1, e2, e3, e4, e5, e6, e7, e8, N, Vw, P⟩ := id RA.1
  have M := NG_of N D
  obtain ⟨z0, z1, z2, z3, z4⟩ := id M.1
  have hX := r_pull2 (u := k) N 0 (show p < n by omega) (show h < r by omega) (by omega) (Rf.h0 rf) (Rf.h1 rf) (Rf.h2 rf) (Rf.h3 rf) (Rf.h4 rf) (Rf.h5 rf) (Rf.h6 rf) (Rf.h7 rf)
  obtain ⟨np, hn, h9 | h9⟩ := f_pull RA (nI p) (nI r) 0
  · obtain ⟨v9, c1, c2, c3, c4, c5, c6, c7, c8, c9, c10, c11, c12, c13, c14, c15, c16, c17, c18, c19, c20, c21, c22, c23, c24, d2, d3, d4, d5, d6, d7, d8, d9, d10, d11, g1, g2, g3⟩ := h9
    rw [hud, hX] at g2
    simp only [Option.some.injEq, Prod.mk.injEq] at g2
    exact absurd g2.2.1 (by decide)
  · obtain ⟨e9, t9, b, ht, g1, g2⟩ := h9
    rw [hud, hX] at g2
    simp only [Option.some.injEq, Prod.mk.injEq] at g2
    have h8 := (nI_eq (by decide) (by omega)).mp g2.2.1
    obtain rfl : e9 = 2 := by omega
    exact Or.inr (Or.inr (Or.inl ⟨np, hn, g1, rfl, rfl⟩))
theorem st_pull3 {st : St} {G : LG} {hs : Nat → LG} {k : Nat} (R : RQ st G hs k) {p r : Nat} (hp : p + 1 = shZ G 2) (hr : r ≤ shZ G 1) : OP_pull st (nI p) (nI r) (-2000000099) st := by
  obtain ⟨rf, RA, D, hud, hk8, hfil, hh⟩ := R
  obtain ⟨w, h, n, HN, sz, V, LL, rc, pull, hx, hy, e1, e2, e3, e4, e5, e6, e7, e8, N, Vw, P⟩ := id RA.1
  have M := NG_of N D
  obtain ⟨z0, z1, z2, z3, z4⟩ := id M.1
  have hX := r_pull3 (u := k) N 0 (show p + 1 = n by omega) (show r ≤ h by omega) (Rf.h0 rf) (Rf.h1 rf) (Rf.h2 rf) (Rf.h3 rf) (Rf.h4 rf) (Rf.h5 rf) (Rf.h6 rf) (Rf.h7 rf)
  obtain ⟨np, hn, h9 | h9⟩ := f_pull RA (nI p) (nI r) 0
  · obtain ⟨v9, c1, c2, c3, c4, c5, c6, c7, c8, c9, c10, c11, c12, c13, c14, c15, c16, c17, c18, c19, c20, c21, c22, c23, c24, d2, d3, d4, d5, d6, d7, d8, d9, d10, d11, g1, g2, g3⟩ := h9
    rw [hud, hX] at g2
    simp only [Option.some.injEq, Prod.mk.injEq] at g2
    exact absurd g2.2.1 (by decide)
  · obtain ⟨e9, t9, b, ht, g1, g2⟩ := h9
    rw [hud, hX] at g2
    simp only [Option.some.injEq, Prod.mk.injEq] at g2
    have h8 := (nI_eq (by decide) (by omega)).mp g2.2.1
    obtain rfl : e9 = 3 := by omega
    exact Or.inr (Or.inr (Or.inr ⟨np, hn, g1, rfl, rfl⟩))
theorem st_length1 {st : St} {G : LG} {hs : Nat → LG} {k : Nat} (R : RQ st G hs k) {l : Nat} (hl : l = 0 ∨ 20 < l) (hl2 : l < 100) : OP_length st (nI l) (-2000000098) st := by
  obtain ⟨rf, RA, D, hud, hk8, hfil, hh⟩ := R
  obtain ⟨w, h, n, HN, sz, V, LL, rc, pull, hx, hy, e1, e2, e3, e4, e5, e6, e7, e8, N, Vw, P⟩ := id RA.1
  have M := NG_of N D
  obtain ⟨z0, z1, z2, z3, z4⟩ := id M.1
  have hX := r_length1 (d := Rf.data rf) (u := k) 0 hl (by omega) (Rf.h0 rf) (Rf.h1 rf) (Rf.h2 rf) (Rf.h3 rf) (Rf.h4 rf) (Rf.h5 rf) (Rf.h6 rf) (Rf.h7 rf)
  obtain ⟨np, hn, h9 | h9⟩ := f_length RA (nI l) 0
  · obtain ⟨v9, c1, c2, c3, c4, c5, c6, c7, c8, c9, c10, c11, c12, c13, c14, c15, c16, c17, c18, c19, d2, d3, d4, d5, d6, d7, d8, d9, d10, d11, g1, g2, g3⟩ := h9
    rw [hud, hX] at g2
    simp only [Option.some.injEq, Prod.mk.injEq] at g2
    exact absurd g2.2.1 (by decide)
  · obtain ⟨e9, t9, b, ht, g1, g2⟩ := h9
    rw [hud, hX] at g2
    simp only [Option.some.injEq, Prod.mk.injEq] at g2
    have h8 := (nI_eq (by decide) (by omega)).mp g2.2.1
    obtain rfl : e9 = 2 := by omega
    exact Or.inr (⟨np, hn, g1, rfl, rfl⟩)
theorem st_come1 {st : St} {G : LG} {hs : Nat → LG} {k : Nat} (R : RQ st G hs k) {a q c : Nat} (hx9 : 9 < a ∨ 25 < q) (ha : a < 100) (hq : q < 100) (hc : c ≤ 999) : OP_come st (nI a) (nI q) (nI c) (-2000000098) st := by
  obtain ⟨rf, RA, D, hud, hk8, hfil, hh⟩ := R
  obtain ⟨w, h, n, HN, sz, V, LL, rc, pull, hx, hy, e1, e2, e3, e4, e5, e6, e7, e8, N, Vw, P⟩ := id RA.1
  have M := NG_of N D
  obtain ⟨z0, z1, z2, z3, z4⟩ := id M.1
  have hX := r_come1 (d := Rf.data rf) (u := k) 0 hx9 (by omega) (by omega) hc (Rf.h0 rf) (Rf.h1 rf) (Rf.h2 rf) (Rf.h3 rf) (Rf.h4 rf) (Rf.h5 rf) (Rf.h6 rf) (Rf.h7 rf)
  obtain ⟨np, hn, h9 | h9⟩ := f_come RA (nI a) (nI q) (nI c) 0
  · obtain ⟨v9, c1, c2, c3, c4, c5, c6, c7, c8, c9, c10, c11, c12, c13, c14, c15, c16, c17, c18, c19, c20, d2, d3, d4, d5, d6, d7, d8, d9, d10, d11, g1, g2, g3⟩ := h9
    rw [hud, hX] at g2
    simp only [Option.some.injEq, Prod.mk.injEq] at g2
    exact absurd g2.2.1 (by decide)
  · obtain ⟨e9, t9, b, ht, g1, g2⟩ := h9
    rw [hud, hX] at g2
    simp only [Option.some.injEq, Prod.mk.injEq] at g2
    have h8 := (nI_eq (by decide) (by omega)).mp g2.2.1
    obtain rfl : e9 = 2 := by omega
    exact Or.inr (Or.inl ⟨np, hn, g1, rfl, rfl⟩)
theorem st_come2 {st : St} {G : LG} {hs : Nat → LG} {k : Nat} (R : RQ st G hs k) {a q c : Nat} (ha : a ≤ 9) (hq : q ≤ 25) (hc : c ≤ 999) (hV : 20 ≤ shZ G 4) : OP_come st (nI a) (nI q) (nI c) (-2000000099) st := by
  obtain ⟨rf, RA, D, hud, hk8, hfil, hh⟩ := R
  obtain ⟨w, h, n, HN, sz, V, LL, rc, pull, hx, hy, e1, e2, e3, e4, e5, e6, e7, e8, N, Vw, P⟩ := id RA.1
  have M := NG_of N D
  obtain ⟨z0, z1, z2, z3, z4⟩ := id M.1
  have hX := r_come2 (u := k) N 0 ha hq hc (show 20 ≤ V by omega) (Rf.h0 rf) (Rf.h1 rf) (Rf.h2 rf) (Rf.h3 rf) (Rf.h4 rf) (Rf.h5 rf) (Rf.h6 rf) (Rf.h7 rf)
  obtain ⟨np, hn, h9 | h9⟩ := f_come RA (nI a) (nI q) (nI c) 0
  · obtain ⟨v9, c1, c2, c3, c4, c5, c6, c7, c8, c9, c10, c11, c12, c13, c14, c15, c16, c17, c18, c19, c20, d2, d3, d4, d5, d6, d7, d8, d9, d10, d11, g1, g2, g3⟩ := h9
    rw [hud, hX] at g2
    simp only [Option.some.injEq, Prod.mk.injEq] at g2
    exact absurd g2.2.1 (by decide)
  · obtain ⟨e9, t9, b, ht, g1, g2⟩ := h9
    rw [hud, hX] at g2
    simp only [Option.some.injEq, Prod.mk.injEq] at g2
    have h8 := (nI_eq (by decide) (by omega)).mp g2.2.1
    obtain rfl : e9 = 3 := by omega
    exact Or.inr (Or.inr (⟨np, hn, g1, rfl, rfl⟩))
