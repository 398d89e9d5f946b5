/-! PHASE 2: the show that is being read -/
def DraftN (w h n HN sz V LL rc : Nat) (hx hy : Nat → Nat) (cells pulls holeX holeY codes : Nat → Int32) (lk fa d : Nat → Int32) : Prop :=
  (SBox w h n z0 HN hx hy ∧ KBox w h n cells z0 ∧ CBox n z0 HN hx hy pulls holeX holeY ∧ RBox w h n cells z0 HN hx hy d) ∧ (PC sz codes ∧ PAll sz codes d) ∧ (rc ≤ 9 ∧ V ≤ 20 ∧ 1 ≤ LL ∧ LL ≤ 20) ∧ (d 4 = nI rc ∧ d 5 = nI LL ∧ d 6 = nI 0 ∧ d 7 = nI V) ∧ (∀ k, k < 4 → lk k = -nI 1) ∧ CInv V HN lk fa ∧ VRel V fa d
theorem RBox.congr2 {w h n : Nat} {cells : Nat → Int32} {pull : Nat → Nat} {HN : Nat} {hx hy : Nat → Nat} {d e : Nat → Int32} (R : RBox w h n cells pull HN hx hy d) (S : SBox w h n pull HN hx hy) (hd : ∀ j, j < 503 → (j < 4 ∨ 9 < j) → e j = d j) : RBox w h n cells pull HN hx hy e := by
  obtain ⟨r0, r1, r2, r3, r4, r5, r6⟩ := R
  obtain ⟨sw, sh, sn, sH, sp, sk⟩ := S
  refine ⟨by rw [hd _ (by omega) (by omega)]; exact r0, by rw [hd _ (by omega) (by omega)]; exact r1, by rw [hd _ (by omega) (by omega)]; exact r2, by rw [hd _ (by omega) (by omega)]; exact r3, fun p hp => by rw [hd _ (by omega) (by omega)]; exact r4 p hp, fun p hp y hy x hx => ?_, fun k hk => ?_⟩
  · have hb := wy_lt hx hy sw.2 sh.2
    rw [hd _ (by omega) (by omega)]
    exact r5 p hp y hy x hx
  · rw [hd _ (by omega) (by omega), hd _ (by omega) (by omega)]
    exact r6 k hk
section DR
variable {w h n HN sz V LL rc : Nat} {hx hy : Nat → Nat} {cells pulls holeX holeY codes : Nat → Int32} {lk fa d : Nat → Int32}
theorem DraftN.line (N : DraftN w h n HN sz V LL rc hx hy cells pulls holeX holeY codes lk fa d) {c1 d1 : Nat → Int32} (L : LineR w h n d c1 d1) : DraftN w h n HN sz V LL rc hx hy c1 pulls holeX holeY codes lk fa d1 := by
  obtain ⟨⟨S, B, C, r0, r1, r2, r3, r4, r5, r6⟩, ⟨P, D⟩, b, ⟨d4, d5, d6, d7⟩, k, I, VR⟩ := N
  obtain ⟨l1, l2, l3⟩ := L
  have s3 := S.2.2.1
  have s4 := S.2.2.2.1
  exact ⟨⟨S, l1, C, (l3 _ (by omega)).trans r0, (l3 _ (by omega)).trans r1, (l3 _ (by omega)).trans r2, (l3 _ (by omega)).trans r3, fun p hp => (l3 _ (by omega)).trans (r4 p hp), l2, fun k hk => ⟨(l3 _ (by omega)).trans (r6 k hk).1, (l3 _ (by omega)).trans (r6 k hk).2⟩⟩, ⟨P, D.congr P.1 (fun j q => l3 j (by omega))⟩, b, ⟨(l3 _ (by omega)).trans d4, (l3 _ (by omega)).trans d5, (l3 _ (by omega)).trans d6, (l3 _ (by omega)).trans d7⟩, k, I, fun v hv q hq => (l3 _ (by omega)).trans (VR v hv q hq)⟩
theorem DraftN.start (N : DraftN w h n HN sz V LL rc hx hy cells pulls holeX holeY codes lk fa d) : LineR w h n d cells d := ⟨N.1.2.1, N.1.2.2.2.2.2.2.2.2.1, fun _ _ => rfl⟩
theorem DraftN.reach (N : DraftN w h n HN sz V LL rc hx hy cells pulls holeX holeY codes lk fa d) {r : Nat} (hr : r ≤ 9) : DraftN w h n HN sz V LL r hx hy cells pulls holeX holeY codes lk fa (upd d 4 (nI r)) := by
  obtain ⟨⟨S, B, C, R⟩, ⟨P, D⟩, ⟨b1, b2, b3, b4⟩, ⟨d4, d5, d6, d7⟩, k, I, VR⟩ := N
  exact ⟨⟨S, B, C, R.congr2 S (fun j h1 h2 => pk_un (by omega))⟩, ⟨P, D.congr P.1 (fun j q => pk_un (by omega))⟩, ⟨hr, b2, b3, b4⟩, ⟨pk_us, (pk_un (by omega)).trans d5, (pk_un (by omega)).trans d6, (pk_un (by omega)).trans d7⟩, k, I, fun v hv q hq => (pk_un (by omega)).trans (VR v hv q hq)⟩
theorem DraftN.len (N : DraftN w h n HN sz V LL rc hx hy cells pulls holeX holeY codes lk fa d) {l : Nat} (h1 : 1 ≤ l) (h2 : l ≤ 20) : DraftN w h n HN sz V l rc hx hy cells pulls holeX holeY codes lk fa (upd d 5 (nI l)) := by
  obtain ⟨⟨S, B, C, R⟩, ⟨P, D⟩, ⟨b1, b2, b3, b4⟩, ⟨d4, d5, d6, d7⟩, k, I, VR⟩ := N
  exact ⟨⟨S, B, C, R.congr2 S (fun j h1 h2 => pk_un (by omega))⟩, ⟨P, D.congr P.1 (fun j q => pk_un (by omega))⟩, ⟨b1, b2, h1, h2⟩, ⟨(pk_un (by omega)).trans d4, pk_us, (pk_un (by omega)).trans d6, (pk_un (by omega)).trans d7⟩, k, I, fun v hv q hq => (pk_un (by omega)).trans (VR v hv q hq)⟩
theorem DraftN.view (N : DraftN w h n HN sz V LL rc hx hy cells pulls holeX holeY codes lk fa d) {a q c : Nat} (ha : a ≤ 9) (hq : q < 26) (hc : c ≤ 999) (hV : V < 20) : DraftN w h n HN sz (V + 1) LL rc hx hy cells pulls holeX holeY codes lk (addF fa V a q c) (addD d V a q c) := by
  obtain ⟨⟨S, B, C, R⟩, ⟨P, D⟩, ⟨b1, b2, b3, b4⟩, ⟨d4, d5, d6, d7⟩, k, I, VR⟩ := N
  have ad : ∀ j, (j < 503 ∨ 643 ≤ j) → j ≠ 7 → addD d V a q c j = d j := fun j h1 h2 => addD_o hV h1 h2
  refine ⟨⟨S, B, C, R.congr2 S (fun j h1 h2 => ad j (by omega) (by omega))⟩, ⟨P, D.congr P.1 (fun j q => ad j (by omega) (by omega))⟩, ⟨b1, by omega, b3, b4⟩, ⟨(ad _ (by omega) (by omega)).trans d4, (ad _ (by omega) (by omega)).trans d5, (ad _ (by omega) (by omega)).trans d6, pk_us⟩, k, I.add ha hq hc (fun m hm => ?_) ?_ ?_ ?_ ?_ ?_ ?_ ?_, VRel.add (f1 := fa) (d1 := d) VR⟩
  · unfold addF
    rw [pk_un (by omega), pk_un (by omega), pk_un (by omega), pk_un (by omega), pk_un (by omega), pk_un (by omega), pk_un (by omega)]
  · unfold addF; simp (disch := omega) only [s_lit, s_b0, s_b1, s_b2, s_b3, s_b4, s_b5, s_b6, s_x0, s_x0l, s_t1, s_nm, s_ckT, s_ld, s_st, s_clamp, nI_add, pk_mul, s_sub, s_nad, s_div, s_mod, s_rem2, s_le_t, s_le_f, s_lt_t, s_lt_f, s_eq_t, s_eq_f, s_n1, s_n2, s_n3, s_n4, s_n5, s_n6, s_n7, s_n8, s_n9, s_n10, s_n11, s_n12, s_us, s_un, s_uLs, s_uLn, ↓reduceIte, not_false_eq_true, not_true_eq_false, true_and, and_true, and_self, or_false, false_or, or_self, true_or, or_true, false_and, and_false, Int32.neg_neg, Nat.add_zero, Nat.zero_add, Nat.reduceSub, Nat.reduceAdd, Nat.reduceMul, Nat.reduceLeDiff]
  · unfold addF; simp (disch := omega) only [s_lit, s_b0, s_b1, s_b2, s_b3, s_b4, s_b5, s_b6, s_x0, s_x0l, s_t1, s_nm, s_ckT, s_ld, s_st, s_clamp, nI_add, pk_mul, s_sub, s_nad, s_div, s_mod, s_rem2, s_le_t, s_le_f, s_lt_t, s_lt_f, s_eq_t, s_eq_f, s_n1, s_n2, s_n3, s_n4, s_n5, s_n6, s_n7, s_n8, s_n9, s_n10, s_n11, s_n12, s_us, s_un, s_uLs, s_uLn, ↓reduceIte, not_false_eq_true, not_true_eq_false, true_and, and_true, and_self, or_false, false_or, or_self, true_or, or_true, false_and, and_false, Int32.neg_neg, Nat.add_zero, Nat.zero_add, Nat.reduceSub, Nat.reduceAdd, Nat.reduceMul, Nat.reduceLeDiff]
  · unfold addF; simp (disch := omega) only [s_lit, s_b0, s_b1, s_b2, s_b3, s_b4, s_b5, s_b6, s_x0, s_x0l, s_t1, s_nm, s_ckT, s_ld, s_st, s_clamp, nI_add, pk_mul, s_sub, s_nad, s_div, s_mod, s_rem2, s_le_t, s_le_f, s_lt_t, s_lt_f, s_eq_t, s_eq_f, s_n1, s_n2, s_n3, s_n4, s_n5, s_n6, s_n7, s_n8, s_n9, s_n10, s_n11, s_n12, s_us, s_un, s_uLs, s_uLn, ↓reduceIte, not_false_eq_true, not_true_eq_false, true_and, and_true, and_self, or_false, false_or, or_self, true_or, or_true, false_and, and_false, Int32.neg_neg, Nat.add_zero, Nat.zero_add, Nat.reduceSub, Nat.reduceAdd, Nat.reduceMul, Nat.reduceLeDiff]
  · unfold addF; simp (disch := omega) only [s_lit, s_b0, s_b1, s_b2, s_b3, s_b4, s_b5, s_b6, s_x0, s_x0l, s_t1, s_nm, s_ckT, s_ld, s_st, s_clamp, nI_add, pk_mul, s_sub, s_nad, s_div, s_mod, s_rem2, s_le_t, s_le_f, s_lt_t, s_lt_f, s_eq_t, s_eq_f, s_n1, s_n2, s_n3, s_n4, s_n5, s_n6, s_n7, s_n8, s_n9, s_n10, s_n11, s_n12, s_us, s_un, s_uLs, s_uLn, ↓reduceIte, not_false_eq_true, not_true_eq_false, true_and, and_true, and_self, or_false, false_or, or_self, true_or, or_true, false_and, and_false, Int32.neg_neg, Nat.add_zero, Nat.zero_add, Nat.reduceSub, Nat.reduceAdd, Nat.reduceMul, Nat.reduceLeDiff]
  · unfold addF; simp (disch := omega) only [s_lit, s_b0, s_b1, s_b2, s_b3, s_b4, s_b5, s_b6, s_x0, s_x0l, s_t1, s_nm, s_ckT, s_ld, s_st, s_clamp, nI_add, pk_mul, s_sub, s_nad, s_div, s_mod, s_rem2, s_le_t, s_le_f, s_lt_t, s_lt_f, s_eq_t, s_eq_f, s_n1, s_n2, s_n3, s_n4, s_n5, s_n6, s_n7, s_n8, s_n9, s_n10, s_n11, s_n12, s_us, s_un, s_uLs, s_uLn, ↓reduceIte, not_false_eq_true, not_true_eq_false, true_and, and_true, and_self, or_false, false_or, or_self, true_or, or_true, false_and, and_false, Int32.neg_neg, Nat.add_zero, Nat.zero_add, Nat.reduceSub, Nat.reduceAdd, Nat.reduceMul, Nat.reduceLeDiff]
  · unfold addF; simp (disch := omega) only [s_lit, s_b0, s_b1, s_b2, s_b3, s_b4, s_b5, s_b6, s_x0, s_x0l, s_t1, s_nm, s_ckT, s_ld, s_st, s_clamp, nI_add, pk_mul, s_sub, s_nad, s_div, s_mod, s_rem2, s_le_t, s_le_f, s_lt_t, s_lt_f, s_eq_t, s_eq_f, s_n1, s_n2, s_n3, s_n4, s_n5, s_n6, s_n7, s_n8, s_n9, s_n10, s_n11, s_n12, s_us, s_un, s_uLs, s_uLn, ↓reduceIte, not_false_eq_true, not_true_eq_false, true_and, and_true, and_self, or_false, false_or, or_self, true_or, or_true, false_and, and_false, Int32.neg_neg, Nat.add_zero, Nat.zero_add, Nat.reduceSub, Nat.reduceAdd, Nat.reduceMul, Nat.reduceLeDiff]
  · unfold addF; simp (disch := omega) only [s_lit, s_b0, s_b1, s_b2, s_b3, s_b4, s_b5, s_b6, s_x0, s_x0l, s_t1, s_nm, s_ckT, s_ld, s_st, s_clamp, nI_add, pk_mul, s_sub, s_nad, s_div, s_mod, s_rem2, s_le_t, s_le_f, s_lt_t, s_lt_f, s_eq_t, s_eq_f, s_n1, s_n2, s_n3, s_n4, s_n5, s_n6, s_n7, s_n8, s_n9, s_n10, s_n11, s_n12, s_us, s_un, s_uLs, s_uLn, ↓reduceIte, not_false_eq_true, not_true_eq_false, true_and, and_true, and_self, or_false, false_or, or_self, true_or, or_true, false_and, and_false, Int32.neg_neg, Nat.add_zero, Nat.zero_add, Nat.reduceSub, Nat.reduceAdd, Nat.reduceMul, Nat.reduceLeDiff]
theorem CInv.hole (I : CInv V HN lk fa) (hl : lk HN = -nI 1) : CInv V (HN + 1) lk fa := by
  refine ⟨fun v hv => ?_, fun k hk => ?_⟩
  · obtain ⟨h0, h1, h2, h6, h3⟩ := I.1 v hv
    refine ⟨h0, h1, h2, h6, ?_⟩
    rcases h3 with ⟨q3, k, t, hk, q⟩ | q
    · exact Or.inl ⟨q3, k, t, by omega, q⟩
    · exact Or.inr q
  · by_cases e : k = HN
    · rw [e]; exact Or.inl hl
    · exact I.2 k (by omega)
def hAt (f : Nat → Nat) (k v : Nat) : Nat → Nat := fun j => if j = k then v else f j
theorem DraftN.hole (N : DraftN w h n HN sz V LL rc hx hy cells pulls holeX holeY codes lk fa d) {x y : Nat} (xx : x < w) (yy : y < h) (hH : HN < 4) : DraftN w h n (HN + 1) sz V LL rc (hAt hx HN x) (hAt hy HN y) cells pulls (upd holeX HN (nI x)) (upd holeY HN (nI y)) codes lk fa (upd (upd (upd d (495 + 2 * HN) (nI x)) (495 + 2 * HN + 1) (nI y)) 3 (nI (HN + 1))) := by
  obtain ⟨⟨S, B, C, r0, r1, r2, r3, r4, r5, r6⟩, ⟨P, D⟩, b, ⟨d4, d5, d6, d7⟩, k, I, VR⟩ := N
  have s1 := S.1
  have s2 := S.2.1
  have s3 := S.2.2.1
  have dd : ∀ j, j ≠ 3 → (j < 495 ∨ 503 ≤ j) → upd (upd (upd d (495 + 2 * HN) (nI x)) (495 + 2 * HN + 1) (nI y)) 3 (nI (HN + 1)) j = d j := fun j h1 h2 => by rw [pk_un h1, pk_un (by omega), pk_un (by omega)]
  refine ⟨⟨⟨s1, s2, s3, by omega, S.2.2.2.2.1, fun q hq => ?_⟩, B, ⟨C.1, fun q hq => ?_⟩, (dd _ (by omega) (by omega)).trans r0, (dd _ (by omega) (by omega)).trans r1, (dd _ (by omega) (by omega)).trans r2, pk_us, fun p hp => (dd _ (by omega) (by omega)).trans (r4 p hp), fun p hp y' hy' x' hx' => ?_, fun q hq => ?_⟩, ⟨P, D.congr P.1 (fun j q => dd j (by omega) (by omega))⟩, b, ⟨(dd _ (by omega) (by omega)).trans d4, (dd _ (by omega) (by omega)).trans d5, (dd _ (by omega) (by omega)).trans d6, (dd _ (by omega) (by omega)).trans d7⟩, k, I.hole (k HN hH), fun v hv q hq => (dd _ (by omega) (by omega)).trans (VR v hv q hq)⟩
  · unfold hAt
    by_cases e : q = HN
    · rw [if_pos e, if_pos e]; exact ⟨xx, yy⟩
    · rw [if_neg e, if_neg e]; exact S.2.2.2.2.2 q (by omega)
  · unfold hAt
    by_cases e : q = HN
    · rw [if_pos e, if_pos e, e, pk_us, pk_us]; exact ⟨rfl, rfl⟩
    · rw [if_neg e, if_neg e, pk_un e, pk_un e]; exact C.2 q (by omega)
  · have hb := wy_lt hx' hy' s1.2 s2.2
    exact (dd _ (by omega) (by omega)).trans (r5 p hp y' hy' x' hx')
  · unfold hAt
    by_cases e : q = HN
    · rw [if_pos e, if_pos e, e, pk_un (by omega), pk_un (by omega), pk_us, pk_un (by omega), pk_us]; exact ⟨rfl, rfl⟩
    · rw [if_neg e, if_neg e, pk_un (by omega), pk_un (by omega), pk_un (by omega), pk_un (by omega), pk_un (by omega), pk_un (by omega)]; exact r6 q (by omega)
theorem RX.pc {sz' : Nat} {codes' d' : Nat → Int32} (X : RX sz' codes' d') (hs : sz' ≤ 800) (h1 : hOf codes' sz' = 1) : PC sz' codes' ∧ (d' 8 = nI 1 → PAll sz' codes' d') := by
  obtain ⟨x1, x2, x3⟩ := X
  refine ⟨⟨hs, by omega, fun i hi => ?_⟩, fun h8 => Or.inr ⟨h8, x1, x2⟩⟩
  rcases x3 i hi with ⟨o, h2⟩ | h
  · refine Or.inl ⟨o, h2, ?_⟩
    rcases x2 i hi with ⟨-, ho⟩ | ⟨o', -⟩
    · exact ⟨_, ho⟩
    · rw [o] at o'; cases o'
  · exact Or.inr h
theorem DraftN.price (N : DraftN w h n HN sz V LL rc hx hy cells pulls holeX holeY codes lk fa d) {sz' : Nat} {codes' d' : Nat → Int32} (X : RX sz' codes' d') (hs : sz' ≤ 800) (h1 : hOf codes' sz' = 1) (out : ∀ j, j ≠ 9 → (j < 643 ∨ 2243 ≤ j) → d' j = upd d 8 (nI 1) j) : DraftN w h n HN sz' V LL rc hx hy cells pulls holeX holeY codes' lk fa d' := by
  obtain ⟨⟨S, B, C, R⟩, ⟨P, D⟩, b, ⟨d4, d5, d6, d7⟩, k, I, VR⟩ := N
  have o2 : ∀ j, j ≠ 8 → j ≠ 9 → (j < 643 ∨ 2243 ≤ j) → d' j = d j := fun j h8 h9 hj => (out j h9 hj).trans (pk_un h8)
  obtain ⟨p1, p2⟩ := X.pc hs h1
  exact ⟨⟨S, B, C, R.congr2 S (fun j h1 h2 => o2 j (by omega) (by omega) (by omega))⟩, ⟨p1, p2 ((out 8 (by omega) (by omega)).trans pk_us)⟩, b, ⟨(o2 _ (by omega) (by omega) (by omega)).trans d4, (o2 _ (by omega) (by omega) (by omega)).trans d5, (o2 _ (by omega) (by omega) (by omega)).trans d6, (o2 _ (by omega) (by omega) (by omega)).trans d7⟩, k, I, fun v hv q hq => (o2 _ (by omega) (by omega) (by omega)).trans (VR v hv q hq)⟩
/-- read to its end, it is a show -/
theorem DraftN.show (N : DraftN w h n HN sz V LL rc hx hy cells pulls holeX holeY codes lk fa d) (h1 : 1 ≤ HN) : ShowN w h n HN sz V LL rc z0 hx hy cells pulls holeX holeY codes (nI 0) lk fa d := by
  obtain ⟨a, p, ⟨b1, b2, b3, b4⟩, dd, k, I, VR⟩ := N
  exact ⟨a, p, ⟨h1, b1, b2, b3, b4⟩, dd, I, VR⟩
end DR
/-- what may be told once -/
theorem once_all : ∀ s : Fin 8, ∀ b : Fin 3, ((((nI s.val >>> (nI b.val &&& 31)) &&& (1 : Int32)) = 1) ↔ s.val / 2 ^ b.val % 2 = 1) ∧ (nI s.val ||| ((1 : Int32) <<< (nI b.val &&& 31))) = nI (if s.val / 2 ^ b.val % 2 = 1 then s.val else s.val + 2 ^ b.val) := by decide +kernel
theorem r_once {s b : Nat} (hs : s < 8) (hb : b < 3) (st : Int32) : (s / 2 ^ b % 2 = 1 ∧ X7_once (nI 0) (-nI 1) (nI s) (nI b) st = some (-nI 2, st, nI s)) ∨ (s / 2 ^ b % 2 = 0 ∧ X7_once (nI 0) (-nI 1) (nI s) (nI b) st = some (nI 0, -nI 1, nI (s + 2 ^ b))) := by
  obtain ⟨h1, h2⟩ := once_all ⟨s, hs⟩ ⟨b, hb⟩
  have h1 : (((nI s >>> (nI b &&& 31)) &&& (1 : Int32)) = 1) ↔ s / 2 ^ b % 2 = 1 := h1
  have h2 : (nI s ||| ((1 : Int32) <<< (nI b &&& 31))) = nI (if s / 2 ^ b % 2 = 1 then s else s + 2 ^ b) := h2
  unfold X7_once
  by_cases c : s / 2 ^ b % 2 = 1
  · rw [if_pos c] at h2
    rw [if_pos (h1.mpr c), q_b2 (show X7_report (nI 0) (-nI 1) (-2) st = some (-nI 2, st) from rfl)]
    unfold X7_once_J19
    rw [q_nm, h2]
    exact Or.inl ⟨c, rfl⟩
  · rw [if_neg c] at h2
    rw [if_neg (fun q => c (h1.mp q))]
    unfold X7_once_J19
    rw [q_nm, h2]
    exact Or.inr ⟨by omega, rfl⟩
