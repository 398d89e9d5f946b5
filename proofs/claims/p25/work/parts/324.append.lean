/-! PHASE 2: append, both sides -/
/-- one byte: the class keeps it with its sign, the reference without -/
def TB (b c : Int32) : Prop := ∃ t, t < 256 ∧ c = nI t ∧ b &&& 255 = nI t ∧ (t < 128 → b = nI t) ∧ (128 ≤ t → b < nI 0)
theorem i32_nat (x : Int32) : x.toInt = (if 2 * x.toBitVec.toNat < 4294967296 then (x.toBitVec.toNat : Int) else (x.toBitVec.toNat : Int) - 4294967296) := BitVec.toInt_eq_toNat_cond x.toBitVec
theorem tb_class (z : Int32) : ∃ b, b = z.toInt8.toInt32 ∧ b &&& 255 = nI (z.toBitVec.toNat % 256) ∧ (z.toBitVec.toNat % 256 < 128 → b = nI (z.toBitVec.toNat % 256)) ∧ (128 ≤ z.toBitVec.toNat % 256 → b < nI 0) := by
  refine ⟨_, rfl, ?_, fun h => ?_, fun h => ?_⟩
  all_goals have hz := i32_nat z
  all_goals have hb : z.toInt8.toInt32.toInt = z.toInt.bmod 256 := by rw [Int8.toInt_toInt32, Int32.toInt_toInt8]
  all_goals rw [Int.bmod_def] at hb
  all_goals have hb2 := i32_nat z.toInt8.toInt32
  all_goals have hzl := z.toBitVec.isLt
  all_goals have hbl := z.toInt8.toInt32.toBitVec.isLt
  · rw [pk_and _ (m := 255) 8 (by decide)]
    congr 1
    show _ % 256 = _ % 256
    split at hz <;> split at hb <;> split at hb2 <;> omega
  · rw [← Int32.toInt_inj, nI_toInt (by omega)]
    split at hz <;> split at hb <;> omega
  · rw [Int32.lt_iff_toInt_lt, nI_toInt (by omega)]
    split at hz <;> split at hb <;> omega
theorem tb_24 (w : Int32) : TB (vp_nar .byte ((w.toUInt32 >>> ((nI 24).toUInt32 &&& Int32.toUInt32 31)).toInt32).toInt8.toInt32) ((w >>> (nI 24 &&& 31)) &&& 255) := by
  have h1 := pk_ushr w (nI 24) 24 (by decide)
  have h2 := pk_shr w (nI 24 &&& 31) 24 (by decide)
  rw [Int.shiftRight_eq_div_pow] at h2
  obtain ⟨b, e, g1, g2, g3⟩ := tb_class ((w.toUInt32 >>> ((nI 24).toUInt32 &&& Int32.toUInt32 31)).toInt32)
  rw [pk_vb, ← e]
  refine ⟨_, Nat.mod_lt _ (by omega), ?_, g1, g2, g3⟩
  rw [pk_and _ (m := 255) 8 (by decide), h1]
  congr 1
  show _ % 256 = _ % 256
  have hw := i32_nat w
  have hx := i32_nat (w >>> (nI 24 &&& 31))
  have hwl := w.toBitVec.isLt
  have hxl := (w >>> (nI 24 &&& 31)).toBitVec.isLt
  split at hw <;> split at hx <;> omega
theorem tb_16 (w : Int32) : TB (vp_nar .byte ((w.toUInt32 >>> ((nI 16).toUInt32 &&& Int32.toUInt32 31)).toInt32).toInt8.toInt32) ((w >>> (nI 16 &&& 31)) &&& 255) := by
  have h1 := pk_ushr w (nI 16) 16 (by decide)
  have h2 := pk_shr w (nI 16 &&& 31) 16 (by decide)
  rw [Int.shiftRight_eq_div_pow] at h2
  obtain ⟨b, e, g1, g2, g3⟩ := tb_class ((w.toUInt32 >>> ((nI 16).toUInt32 &&& Int32.toUInt32 31)).toInt32)
  rw [pk_vb, ← e]
  refine ⟨_, Nat.mod_lt _ (by omega), ?_, g1, g2, g3⟩
  rw [pk_and _ (m := 255) 8 (by decide), h1]
  congr 1
  show _ % 256 = _ % 256
  have hw := i32_nat w
  have hx := i32_nat (w >>> (nI 16 &&& 31))
  have hwl := w.toBitVec.isLt
  have hxl := (w >>> (nI 16 &&& 31)).toBitVec.isLt
  split at hw <;> split at hx <;> omega
theorem tb_8 (w : Int32) : TB (vp_nar .byte ((w.toUInt32 >>> ((nI 8).toUInt32 &&& Int32.toUInt32 31)).toInt32).toInt8.toInt32) ((w >>> (nI 8 &&& 31)) &&& 255) := by
  have h1 := pk_ushr w (nI 8) 8 (by decide)
  have h2 := pk_shr w (nI 8 &&& 31) 8 (by decide)
  rw [Int.shiftRight_eq_div_pow] at h2
  obtain ⟨b, e, g1, g2, g3⟩ := tb_class ((w.toUInt32 >>> ((nI 8).toUInt32 &&& Int32.toUInt32 31)).toInt32)
  rw [pk_vb, ← e]
  refine ⟨_, Nat.mod_lt _ (by omega), ?_, g1, g2, g3⟩
  rw [pk_and _ (m := 255) 8 (by decide), h1]
  congr 1
  show _ % 256 = _ % 256
  have hw := i32_nat w
  have hx := i32_nat (w >>> (nI 8 &&& 31))
  have hwl := w.toBitVec.isLt
  have hxl := (w >>> (nI 8 &&& 31)).toBitVec.isLt
  split at hw <;> split at hx <;> omega
theorem tb_0 (w : Int32) : TB (vp_nar .byte ((w.toUInt32 >>> ((nI 0).toUInt32 &&& Int32.toUInt32 31)).toInt32).toInt8.toInt32) ((w >>> (nI 0 &&& 31)) &&& 255) := by
  have h1 := pk_ushr w (nI 0) 0 (by decide)
  have h2 := pk_shr w (nI 0 &&& 31) 0 (by decide)
  rw [Int.shiftRight_eq_div_pow] at h2
  obtain ⟨b, e, g1, g2, g3⟩ := tb_class ((w.toUInt32 >>> ((nI 0).toUInt32 &&& Int32.toUInt32 31)).toInt32)
  rw [pk_vb, ← e]
  refine ⟨_, Nat.mod_lt _ (by omega), ?_, g1, g2, g3⟩
  rw [pk_and _ (m := 255) 8 (by decide), h1]
  congr 1
  show _ % 256 = _ % 256
  have hw := i32_nat w
  have hx := i32_nat (w >>> (nI 0 &&& 31))
  have hwl := w.toBitVec.isLt
  have hxl := (w >>> (nI 0 &&& 31)).toBitVec.isLt
  split at hw <;> split at hx <;> omega
/-- the byte that the class keeps of a word -/
def bt (w : Int32) (s : Nat) : Int32 := vp_nar .byte ((w.toUInt32 >>> ((nI s).toUInt32 &&& Int32.toUInt32 31)).toInt32).toInt8.toInt32
def rt (w : Int32) (s : Nat) : Int32 := (w >>> (nI s &&& 31)) &&& 255
theorem neg08 : (nI 0 + -nI 8 < nI 0) = True := eq_true (by decide +kernel)
def put4 (bytes : Nat → Int32) (f : Nat) (w : Int32) : Nat → Int32 := upd (upd (upd (upd bytes f (bt w 24)) (f + 1) (bt w 16)) (f + 2) (bt w 8)) (f + 3) (bt w 0)
theorem q_put {f : Nat} (bytes : Nat → Int32) (w : Int32) (hf : f + 4 ≤ 800) : X3_put (nI f) bytes w = some (nI (f + 4), put4 bytes f w) := by
  unfold X3_put put4 bt
  rw [show FU = 999995 + 1 + 1 + 1 + 1 + 1 from rfl]
  rw [X3_put_L3]
  simp (disch := omega) only [s_lit, s_b0, s_b1, s_b2, s_b3, s_b4, s_b5, s_b6, s_x0, s_x0l, s_t1, s_nm, s_ckT, s_ld, s_st, s_clamp, nI_add, pk_mul, s_sub, s_nad, s_div, s_mod, s_rem2, s_le_t, s_le_f, s_lt_t, s_lt_f, s_eq_t, s_eq_f, s_n1, s_n2, s_n3, s_n4, s_n5, s_n6, s_n7, s_n8, s_n9, s_n10, s_n11, s_n12, s_us, s_un, s_uLs, s_uLn, ↓reduceIte, not_false_eq_true, not_true_eq_false, true_and, and_true, and_self, or_false, false_or, or_self, true_or, or_true, false_and, and_false, Int32.neg_neg, Nat.add_zero, Nat.zero_add, Nat.reduceSub, Nat.reduceAdd, Nat.reduceMul, Nat.reduceLeDiff]
  rw [X3_put_L3]
  simp (disch := omega) only [s_lit, s_b0, s_b1, s_b2, s_b3, s_b4, s_b5, s_b6, s_x0, s_x0l, s_t1, s_nm, s_ckT, s_ld, s_st, s_clamp, nI_add, pk_mul, s_sub, s_nad, s_div, s_mod, s_rem2, s_le_t, s_le_f, s_lt_t, s_lt_f, s_eq_t, s_eq_f, s_n1, s_n2, s_n3, s_n4, s_n5, s_n6, s_n7, s_n8, s_n9, s_n10, s_n11, s_n12, s_us, s_un, s_uLs, s_uLn, ↓reduceIte, not_false_eq_true, not_true_eq_false, true_and, and_true, and_self, or_false, false_or, or_self, true_or, or_true, false_and, and_false, Int32.neg_neg, Nat.add_zero, Nat.zero_add, Nat.reduceSub, Nat.reduceAdd, Nat.reduceMul, Nat.reduceLeDiff]
  rw [X3_put_L3]
  simp (disch := omega) only [s_lit, s_b0, s_b1, s_b2, s_b3, s_b4, s_b5, s_b6, s_x0, s_x0l, s_t1, s_nm, s_ckT, s_ld, s_st, s_clamp, nI_add, pk_mul, s_sub, s_nad, s_div, s_mod, s_rem2, s_le_t, s_le_f, s_lt_t, s_lt_f, s_eq_t, s_eq_f, s_n1, s_n2, s_n3, s_n4, s_n5, s_n6, s_n7, s_n8, s_n9, s_n10, s_n11, s_n12, s_us, s_un, s_uLs, s_uLn, ↓reduceIte, not_false_eq_true, not_true_eq_false, true_and, and_true, and_self, or_false, false_or, or_self, true_or, or_true, false_and, and_false, Int32.neg_neg, Nat.add_zero, Nat.zero_add, Nat.reduceSub, Nat.reduceAdd, Nat.reduceMul, Nat.reduceLeDiff]
  rw [X3_put_L3]
  simp (disch := omega) only [s_lit, s_b0, s_b1, s_b2, s_b3, s_b4, s_b5, s_b6, s_x0, s_x0l, s_t1, s_nm, s_ckT, s_ld, s_st, s_clamp, nI_add, pk_mul, s_sub, s_nad, s_div, s_mod, s_rem2, s_le_t, s_le_f, s_lt_t, s_lt_f, s_eq_t, s_eq_f, s_n1, s_n2, s_n3, s_n4, s_n5, s_n6, s_n7, s_n8, s_n9, s_n10, s_n11, s_n12, s_us, s_un, s_uLs, s_uLn, ↓reduceIte, not_false_eq_true, not_true_eq_false, true_and, and_true, and_self, or_false, false_or, or_self, true_or, or_true, false_and, and_false, Int32.neg_neg, Nat.add_zero, Nat.zero_add, Nat.reduceSub, Nat.reduceAdd, Nat.reduceMul, Nat.reduceLeDiff]
  rw [X3_put_L3]
  simp (disch := omega) only [s_lit, s_b0, s_b1, s_b2, s_b3, s_b4, s_b5, s_b6, s_x0, s_x0l, s_t1, s_nm, s_ckT, s_ld, s_st, s_clamp, nI_add, pk_mul, s_sub, s_nad, s_div, s_mod, s_rem2, s_le_t, s_le_f, s_lt_t, s_lt_f, s_eq_t, s_eq_f, s_n1, s_n2, s_n3, s_n4, s_n5, s_n6, s_n7, s_n8, s_n9, s_n10, s_n11, s_n12, s_us, s_un, s_uLs, s_uLn, ↓reduceIte, not_false_eq_true, not_true_eq_false, true_and, and_true, and_self, or_false, false_or, or_self, true_or, or_true, false_and, and_false, Int32.neg_neg, Nat.add_zero, Nat.zero_add, Nat.reduceSub, Nat.reduceAdd, Nat.reduceMul, Nat.reduceLeDiff, neg08]
/-- the five words, by the byte -/
def w5 (w0 w1 w2 w3 w4 : Int32) (i : Nat) : Int32 := if i < 4 then w0 else if i < 8 then w1 else if i < 12 then w2 else if i < 16 then w3 else w4
theorem r_appL {w0 w1 w2 w3 w4 o : Int32} {f : Nat} (hf : f + 20 ≤ 800) : ∀ (fuel k : Nat) (buffer : Nat → Int32), 20 - k < fuel → k ≤ 20 → ∃ b1, X7_append_L23 w0 w1 w2 w3 w4 fuel (nI k) o (nI (f + k)) buffer = some (nI (f + 20), o, nI (f + 20), b1) ∧ (∀ j, j < f + k → b1 j = buffer j) ∧ ∀ i, k ≤ i → i < 20 → b1 (f + i) = rt (w5 w0 w1 w2 w3 w4 i) (24 - 8 * (i % 4))
  | 0, k, _, h, _ => absurd h (Nat.not_lt_zero _)
  | fuel + 1, k, buffer, h, hk => by
    rw [X7_append_L23]
    by_cases e : k = 20
    · subst e
      exact ⟨buffer, if_pos (show nI 20 ≤ nI 20 from nI_le (Nat.le_refl _) (by omega)), fun _ _ => rfl, fun i h1 h2 => absurd h1 (by omega)⟩
    · have hk' : k < 20 := by omega
      have hm : k % 4 < 4 := Nat.mod_lt _ (by omega)
      have hgo : ∀ w : Int32, w = w5 w0 w1 w2 w3 w4 k → ∃ b1, X7_append_J76 w0 w1 w2 w3 w4 (fun z0 z1 z2 z3 => X7_append_L23 w0 w1 w2 w3 w4 fuel z0 z1 z2 z3) (nI k) w o (nI (f + k)) buffer = some (nI (f + 20), o, nI (f + 20), b1) ∧ (∀ j, j < f + k → b1 j = buffer j) ∧ ∀ i, k ≤ i → i < 20 → b1 (f + i) = rt (w5 w0 w1 w2 w3 w4 i) (24 - 8 * (i % 4)) := fun w hw => by
        obtain ⟨b1, g1, g2, g3⟩ := r_appL (o := o) hf fuel (k + 1) (upd buffer (f + k) (rt w (24 - 8 * (k % 4)))) (by omega) (by omega)
        refine ⟨b1, ?_, fun j hj => (g2 j (by omega)).trans (pk_un (by omega)), fun i h1 h2 => ?_⟩
        · unfold X7_append_J76
          rw [show nI k - nI k / 4 * 4 = nI (k % 4) from pk_rem (d := 4) (by omega) (by omega) (by omega), q_nm, show (24 : Int32) - 8 * nI (k % 4) = nI (24 - 8 * (k % 4)) from by rw [show (8 : Int32) = nI 8 from rfl, show (24 : Int32) = nI 24 from rfl, pk_mul, pk_sub (by omega)], q_st _ (f + k) _ rfl (by omega) (by omega), nI_clamp (by omega), q_nm, q_nm, nI_1, nI_1]
          exact g1
        · by_cases ei : i = k
          · rw [ei, g2 _ (by omega), pk_us, hw]
          · exact g3 i (by omega) h2
      rw [if_neg (show ¬ (20 : Int32) ≤ nI k from nI_ge (b := 20) hk' (by omega))]
      by_cases c4 : k < 4
      · rw [if_neg (show ¬ (4 : Int32) ≤ nI k from nI_ge (b := 4) c4 (by omega))]
        exact hgo _ (if_pos c4).symm
      · rw [if_pos (show (4 : Int32) ≤ nI k from nI_le (a := 4) (by omega) (by omega))]
        by_cases c8 : k < 8
        · rw [if_neg (show ¬ (8 : Int32) ≤ nI k from nI_ge (b := 8) c8 (by omega))]
          exact hgo _ ((if_neg c4).trans (if_pos c8)).symm
        · rw [if_pos (show (8 : Int32) ≤ nI k from nI_le (a := 8) (by omega) (by omega))]
          by_cases c12 : k < 12
          · rw [if_neg (show ¬ (12 : Int32) ≤ nI k from nI_ge (b := 12) c12 (by omega))]
            exact hgo _ ((if_neg c4).trans ((if_neg c8).trans (if_pos c12))).symm
          · rw [if_pos (show (12 : Int32) ≤ nI k from nI_le (a := 12) (by omega) (by omega))]
            by_cases c16 : k < 16
            · rw [if_neg (show ¬ (16 : Int32) ≤ nI k from nI_ge (b := 16) c16 (by omega))]
              exact hgo _ ((if_neg c4).trans ((if_neg c8).trans ((if_neg c12).trans (if_pos c16)))).symm
            · rw [if_pos (show (16 : Int32) ≤ nI k from nI_le (a := 16) (by omega) (by omega))]
              exact hgo _ ((if_neg c4).trans ((if_neg c8).trans ((if_neg c12).trans (if_neg c16)))).symm
/-- the buffers hold the same bytes -/
def BufR (f : Nat) (bytes buffer : Nat → Int32) : Prop := f ≤ 800 ∧ ∀ j, j < f → TB (bytes j) (buffer j)
theorem m_append {f : Nat} {bytes buffer : Nat → Int32} (B : BufR f bytes buffer) (w0 w1 w2 w3 w4 o : Int32) :
    ∃ v f1 b1 b2, X6_append (nI f) bytes w0 w1 w2 w3 w4 = some (v, nI f1, b1) ∧ X7_append o (nI f) buffer w0 w1 w2 w3 w4 = some (v, nI 0, nI f1, b2) ∧ BufR f1 b1 b2 := by
  obtain ⟨hf, hB⟩ := B
  unfold X6_append X7_append X3_hasRoomFor
  by_cases c : f + 20 ≤ 800
  · obtain ⟨b2, g1, g2, g3⟩ := r_appL (w0 := w0) (w1 := w1) (w2 := w2) (w3 := w3) (w4 := w4) (o := nI 0) c FU 0 buffer (by unfold FU; omega) (Nat.zero_le _)
    refine ⟨nI (f + 20), f + 20, put4 (put4 (put4 (put4 (put4 bytes f w0) (f + 4) w1) (f + 4 + 4) w2) (f + 4 + 4 + 4) w3) (f + 4 + 4 + 4 + 4) w4, b2, ?_, ?_, c, fun j hj => ?_⟩
    · rw [show (20 : Int32) = nI 20 from rfl, nI_add, if_neg (show ¬ (800 : Int32) < nI (f + 20) from nI_nlt (a := 800) c (by omega)), s_b1, if_neg (by decide), q_b2 (q_put bytes w0 (by omega)), q_b2 (q_put _ w1 (by omega)), q_b2 (q_put _ w2 (by omega)), q_b2 (q_put _ w3 (by omega)), q_b2 (q_put _ w4 (by omega))]
    · rw [show (20 : Int32) = nI 20 from rfl, nI_add, if_pos (show nI (f + 20) ≤ (800 : Int32) from nI_le (b := 800) c (by omega))]
      exact g1
    · unfold put4
      by_cases cj : j < f
      · rw [g2 j (by omega)]
        rw [pk_un (by omega), pk_un (by omega), pk_un (by omega), pk_un (by omega), pk_un (by omega), pk_un (by omega), pk_un (by omega), pk_un (by omega), pk_un (by omega), pk_un (by omega), pk_un (by omega), pk_un (by omega), pk_un (by omega), pk_un (by omega), pk_un (by omega), pk_un (by omega), pk_un (by omega), pk_un (by omega), pk_un (by omega), pk_un (by omega)]
        exact hB j cj
      · obtain ⟨i, rfl⟩ : ∃ i, j = f + i := ⟨j - f, by omega⟩
        rw [g3 i (Nat.zero_le _) (by omega)]
        rcases (show i = 0 ∨ i = 1 ∨ i = 2 ∨ i = 3 ∨ i = 4 ∨ i = 5 ∨ i = 6 ∨ i = 7 ∨ i = 8 ∨ i = 9 ∨ i = 10 ∨ i = 11 ∨ i = 12 ∨ i = 13 ∨ i = 14 ∨ i = 15 ∨ i = 16 ∨ i = 17 ∨ i = 18 ∨ i = 19 by omega) with e | e | e | e | e | e | e | e | e | e | e | e | e | e | e | e | e | e | e | e <;> subst e
        · simp (disch := omega) only [s_lit, s_b0, s_b1, s_b2, s_b3, s_b4, s_b5, s_b6, s_x0, s_x0l, s_t1, s_nm, s_ckT, s_ld, s_st, s_clamp, nI_add, pk_mul, s_sub, s_nad, s_div, s_mod, s_rem2, s_le_t, s_le_f, s_lt_t, s_lt_f, s_eq_t, s_eq_f, s_n1, s_n2, s_n3, s_n4, s_n5, s_n6, s_n7, s_n8, s_n9, s_n10, s_n11, s_n12, s_us, s_un, s_uLs, s_uLn, ↓reduceIte, not_false_eq_true, not_true_eq_false, true_and, and_true, and_self, or_false, false_or, or_self, true_or, or_true, false_and, and_false, Int32.neg_neg, Nat.add_zero, Nat.zero_add, Nat.reduceSub, Nat.reduceAdd, Nat.reduceMul, Nat.reduceLeDiff]
          exact tb_24 w0
        · simp (disch := omega) only [s_lit, s_b0, s_b1, s_b2, s_b3, s_b4, s_b5, s_b6, s_x0, s_x0l, s_t1, s_nm, s_ckT, s_ld, s_st, s_clamp, nI_add, pk_mul, s_sub, s_nad, s_div, s_mod, s_rem2, s_le_t, s_le_f, s_lt_t, s_lt_f, s_eq_t, s_eq_f, s_n1, s_n2, s_n3, s_n4, s_n5, s_n6, s_n7, s_n8, s_n9, s_n10, s_n11, s_n12, s_us, s_un, s_uLs, s_uLn, ↓reduceIte, not_false_eq_true, not_true_eq_false, true_and, and_true, and_self, or_false, false_or, or_self, true_or, or_true, false_and, and_false, Int32.neg_neg, Nat.add_zero, Nat.zero_add, Nat.reduceSub, Nat.reduceAdd, Nat.reduceMul, Nat.reduceLeDiff]
          exact tb_16 w0
        · simp (disch := omega) only [s_lit, s_b0, s_b1, s_b2, s_b3, s_b4, s_b5, s_b6, s_x0, s_x0l, s_t1, s_nm, s_ckT, s_ld, s_st, s_clamp, nI_add, pk_mul, s_sub, s_nad, s_div, s_mod, s_rem2, s_le_t, s_le_f, s_lt_t, s_lt_f, s_eq_t, s_eq_f, s_n1, s_n2, s_n3, s_n4, s_n5, s_n6, s_n7, s_n8, s_n9, s_n10, s_n11, s_n12, s_us, s_un, s_uLs, s_uLn, ↓reduceIte, not_false_eq_true, not_true_eq_false, true_and, and_true, and_self, or_false, false_or, or_self, true_or, or_true, false_and, and_false, Int32.neg_neg, Nat.add_zero, Nat.zero_add, Nat.reduceSub, Nat.reduceAdd, Nat.reduceMul, Nat.reduceLeDiff]
          exact tb_8 w0
        · simp (disch := omega) only [s_lit, s_b0, s_b1, s_b2, s_b3, s_b4, s_b5, s_b6, s_x0, s_x0l, s_t1, s_nm, s_ckT, s_ld, s_st, s_clamp, nI_add, pk_mul, s_sub, s_nad, s_div, s_mod, s_rem2, s_le_t, s_le_f, s_lt_t, s_lt_f, s_eq_t, s_eq_f, s_n1, s_n2, s_n3, s_n4, s_n5, s_n6, s_n7, s_n8, s_n9, s_n10, s_n11, s_n12, s_us, s_un, s_uLs, s_uLn, ↓reduceIte, not_false_eq_true, not_true_eq_false, true_and, and_true, and_self, or_false, false_or, or_self, true_or, or_true, false_and, and_false, Int32.neg_neg, Nat.add_zero, Nat.zero_add, Nat.reduceSub, Nat.reduceAdd, Nat.reduceMul, Nat.reduceLeDiff]
          exact tb_0 w0
        · simp (disch := omega) only [s_lit, s_b0, s_b1, s_b2, s_b3, s_b4, s_b5, s_b6, s_x0, s_x0l, s_t1, s_nm, s_ckT, s_ld, s_st, s_clamp, nI_add, pk_mul, s_sub, s_nad, s_div, s_mod, s_rem2, s_le_t, s_le_f, s_lt_t, s_lt_f, s_eq_t, s_eq_f, s_n1, s_n2, s_n3, s_n4, s_n5, s_n6, s_n7, s_n8, s_n9, s_n10, s_n11, s_n12, s_us, s_un, s_uLs, s_uLn, ↓reduceIte, not_false_eq_true, not_true_eq_false, true_and, and_true, and_self, or_false, false_or, or_self, true_or, or_true, false_and, and_false, Int32.neg_neg, Nat.add_zero, Nat.zero_add, Nat.reduceSub, Nat.reduceAdd, Nat.reduceMul, Nat.reduceLeDiff]
          exact tb_24 w1
        · simp (disch := omega) only [s_lit, s_b0, s_b1, s_b2, s_b3, s_b4, s_b5, s_b6, s_x0, s_x0l, s_t1, s_nm, s_ckT, s_ld, s_st, s_clamp, nI_add, pk_mul, s_sub, s_nad, s_div, s_mod, s_rem2, s_le_t, s_le_f, s_lt_t, s_lt_f, s_eq_t, s_eq_f, s_n1, s_n2, s_n3, s_n4, s_n5, s_n6, s_n7, s_n8, s_n9, s_n10, s_n11, s_n12, s_us, s_un, s_uLs, s_uLn, ↓reduceIte, not_false_eq_true, not_true_eq_false, true_and, and_true, and_self, or_false, false_or, or_self, true_or, or_true, false_and, and_false, Int32.neg_neg, Nat.add_zero, Nat.zero_add, Nat.reduceSub, Nat.reduceAdd, Nat.reduceMul, Nat.reduceLeDiff]
          exact tb_16 w1
        · simp (disch := omega) only [s_lit, s_b0, s_b1, s_b2, s_b3, s_b4, s_b5, s_b6, s_x0, s_x0l, s_t1, s_nm, s_ckT, s_ld, s_st, s_clamp, nI_add, pk_mul, s_sub, s_nad, s_div, s_mod, s_rem2, s_le_t, s_le_f, s_lt_t, s_lt_f, s_eq_t, s_eq_f, s_n1, s_n2, s_n3, s_n4, s_n5, s_n6, s_n7, s_n8, s_n9, s_n10, s_n11, s_n12, s_us, s_un, s_uLs, s_uLn, ↓reduceIte, not_false_eq_true, not_true_eq_false, true_and, and_true, and_self, or_false, false_or, or_self, true_or, or_true, false_and, and_false, Int32.neg_neg, Nat.add_zero, Nat.zero_add, Nat.reduceSub, Nat.reduceAdd, Nat.reduceMul, Nat.reduceLeDiff]
          exact tb_8 w1
        · simp (disch := omega) only [s_lit, s_b0, s_b1, s_b2, s_b3, s_b4, s_b5, s_b6, s_x0, s_x0l, s_t1, s_nm, s_ckT, s_ld, s_st, s_clamp, nI_add, pk_mul, s_sub, s_nad, s_div, s_mod, s_rem2, s_le_t, s_le_f, s_lt_t, s_lt_f, s_eq_t, s_eq_f, s_n1, s_n2, s_n3, s_n4, s_n5, s_n6, s_n7, s_n8, s_n9, s_n10, s_n11, s_n12, s_us, s_un, s_uLs, s_uLn, ↓reduceIte, not_false_eq_true, not_true_eq_false, true_and, and_true, and_self, or_false, false_or, or_self, true_or, or_true, false_and, and_false, Int32.neg_neg, Nat.add_zero, Nat.zero_add, Nat.reduceSub, Nat.reduceAdd, Nat.reduceMul, Nat.reduceLeDiff]
          exact tb_0 w1
        · simp (disch := omega) only [s_lit, s_b0, s_b1, s_b2, s_b3, s_b4, s_b5, s_b6, s_x0, s_x0l, s_t1, s_nm, s_ckT, s_ld, s_st, s_clamp, nI_add, pk_mul, s_sub, s_nad, s_div, s_mod, s_rem2, s_le_t, s_le_f, s_lt_t, s_lt_f, s_eq_t, s_eq_f, s_n1, s_n2, s_n3, s_n4, s_n5, s_n6, s_n7, s_n8, s_n9, s_n10, s_n11, s_n12, s_us, s_un, s_uLs, s_uLn, ↓reduceIte, not_false_eq_true, not_true_eq_false, true_and, and_true, and_self, or_false, false_or, or_self, true_or, or_true, false_and, and_false, Int32.neg_neg, Nat.add_zero, Nat.zero_add, Nat.reduceSub, Nat.reduceAdd, Nat.reduceMul, Nat.reduceLeDiff]
          exact tb_24 w2
        · simp (disch := omega) only [s_lit, s_b0, s_b1, s_b2, s_b3, s_b4, s_b5, s_b6, s_x0, s_x0l, s_t1, s_nm, s_ckT, s_ld, s_st, s_clamp, nI_add, pk_mul, s_sub, s_nad, s_div, s_mod, s_rem2, s_le_t, s_le_f, s_lt_t, s_lt_f, s_eq_t, s_eq_f, s_n1, s_n2, s_n3, s_n4, s_n5, s_n6, s_n7, s_n8, s_n9, s_n10, s_n11, s_n12, s_us, s_un, s_uLs, s_uLn, ↓reduceIte, not_false_eq_true, not_true_eq_false, true_and, and_true, and_self, or_false, false_or, or_self, true_or, or_true, false_and, and_false, Int32.neg_neg, Nat.add_zero, Nat.zero_add, Nat.reduceSub, Nat.reduceAdd, Nat.reduceMul, Nat.reduceLeDiff]
          exact tb_16 w2
        · simp (disch := omega) only [s_lit, s_b0, s_b1, s_b2, s_b3, s_b4, s_b5, s_b6, s_x0, s_x0l, s_t1, s_nm, s_ckT, s_ld, s_st, s_clamp, nI_add, pk_mul, s_sub, s_nad, s_div, s_mod, s_rem2, s_le_t, s_le_f, s_lt_t, s_lt_f, s_eq_t, s_eq_f, s_n1, s_n2, s_n3, s_n4, s_n5, s_n6, s_n7, s_n8, s_n9, s_n10, s_n11, s_n12, s_us, s_un, s_uLs, s_uLn, ↓reduceIte, not_false_eq_true, not_true_eq_false, true_and, and_true, and_self, or_false, false_or, or_self, true_or, or_true, false_and, and_false, Int32.neg_neg, Nat.add_zero, Nat.zero_add, Nat.reduceSub, Nat.reduceAdd, Nat.reduceMul, Nat.reduceLeDiff]
          exact tb_8 w2
        · simp (disch := omega) only [s_lit, s_b0, s_b1, s_b2, s_b3, s_b4, s_b5, s_b6, s_x0, s_x0l, s_t1, s_nm, s_ckT, s_ld, s_st, s_clamp, nI_add, pk_mul, s_sub, s_nad, s_div, s_mod, s_rem2, s_le_t, s_le_f, s_lt_t, s_lt_f, s_eq_t, s_eq_f, s_n1, s_n2, s_n3, s_n4, s_n5, s_n6, s_n7, s_n8, s_n9, s_n10, s_n11, s_n12, s_us, s_un, s_uLs, s_uLn, ↓reduceIte, not_false_eq_true, not_true_eq_false, true_and, and_true, and_self, or_false, false_or, or_self, true_or, or_true, false_and, and_false, Int32.neg_neg, Nat.add_zero, Nat.zero_add, Nat.reduceSub, Nat.reduceAdd, Nat.reduceMul, Nat.reduceLeDiff]
          exact tb_0 w2
        · simp (disch := omega) only [s_lit, s_b0, s_b1, s_b2, s_b3, s_b4, s_b5, s_b6, s_x0, s_x0l, s_t1, s_nm, s_ckT, s_ld, s_st, s_clamp, nI_add, pk_mul, s_sub, s_nad, s_div, s_mod, s_rem2, s_le_t, s_le_f, s_lt_t, s_lt_f, s_eq_t, s_eq_f, s_n1, s_n2, s_n3, s_n4, s_n5, s_n6, s_n7, s_n8, s_n9, s_n10, s_n11, s_n12, s_us, s_un, s_uLs, s_uLn, ↓reduceIte, not_false_eq_true, not_true_eq_false, true_and, and_true, and_self, or_false, false_or, or_self, true_or, or_true, false_and, and_false, Int32.neg_neg, Nat.add_zero, Nat.zero_add, Nat.reduceSub, Nat.reduceAdd, Nat.reduceMul, Nat.reduceLeDiff]
          exact tb_24 w3
        · simp (disch := omega) only [s_lit, s_b0, s_b1, s_b2, s_b3, s_b4, s_b5, s_b6, s_x0, s_x0l, s_t1, s_nm, s_ckT, s_ld, s_st, s_clamp, nI_add, pk_mul, s_sub, s_nad, s_div, s_mod, s_rem2, s_le_t, s_le_f, s_lt_t, s_lt_f, s_eq_t, s_eq_f, s_n1, s_n2, s_n3, s_n4, s_n5, s_n6, s_n7, s_n8, s_n9, s_n10, s_n11, s_n12, s_us, s_un, s_uLs, s_uLn, ↓reduceIte, not_false_eq_true, not_true_eq_false, true_and, and_true, and_self, or_false, false_or, or_self, true_or, or_true, false_and, and_false, Int32.neg_neg, Nat.add_zero, Nat.zero_add, Nat.reduceSub, Nat.reduceAdd, Nat.reduceMul, Nat.reduceLeDiff]
          exact tb_16 w3
        · simp (disch := omega) only [s_lit, s_b0, s_b1, s_b2, s_b3, s_b4, s_b5, s_b6, s_x0, s_x0l, s_t1, s_nm, s_ckT, s_ld, s_st, s_clamp, nI_add, pk_mul, s_sub, s_nad, s_div, s_mod, s_rem2, s_le_t, s_le_f, s_lt_t, s_lt_f, s_eq_t, s_eq_f, s_n1, s_n2, s_n3, s_n4, s_n5, s_n6, s_n7, s_n8, s_n9, s_n10, s_n11, s_n12, s_us, s_un, s_uLs, s_uLn, ↓reduceIte, not_false_eq_true, not_true_eq_false, true_and, and_true, and_self, or_false, false_or, or_self, true_or, or_true, false_and, and_false, Int32.neg_neg, Nat.add_zero, Nat.zero_add, Nat.reduceSub, Nat.reduceAdd, Nat.reduceMul, Nat.reduceLeDiff]
          exact tb_8 w3
        · simp (disch := omega) only [s_lit, s_b0, s_b1, s_b2, s_b3, s_b4, s_b5, s_b6, s_x0, s_x0l, s_t1, s_nm, s_ckT, s_ld, s_st, s_clamp, nI_add, pk_mul, s_sub, s_nad, s_div, s_mod, s_rem2, s_le_t, s_le_f, s_lt_t, s_lt_f, s_eq_t, s_eq_f, s_n1, s_n2, s_n3, s_n4, s_n5, s_n6, s_n7, s_n8, s_n9, s_n10, s_n11, s_n12, s_us, s_un, s_uLs, s_uLn, ↓reduceIte, not_false_eq_true, not_true_eq_false, true_and, and_true, and_self, or_false, false_or, or_self, true_or, or_true, false_and, and_false, Int32.neg_neg, Nat.add_zero, Nat.zero_add, Nat.reduceSub, Nat.reduceAdd, Nat.reduceMul, Nat.reduceLeDiff]
          exact tb_0 w3
        · simp (disch := omega) only [s_lit, s_b0, s_b1, s_b2, s_b3, s_b4, s_b5, s_b6, s_x0, s_x0l, s_t1, s_nm, s_ckT, s_ld, s_st, s_clamp, nI_add, pk_mul, s_sub, s_nad, s_div, s_mod, s_rem2, s_le_t, s_le_f, s_lt_t, s_lt_f, s_eq_t, s_eq_f, s_n1, s_n2, s_n3, s_n4, s_n5, s_n6, s_n7, s_n8, s_n9, s_n10, s_n11, s_n12, s_us, s_un, s_uLs, s_uLn, ↓reduceIte, not_false_eq_true, not_true_eq_false, true_and, and_true, and_self, or_false, false_or, or_self, true_or, or_true, false_and, and_false, Int32.neg_neg, Nat.add_zero, Nat.zero_add, Nat.reduceSub, Nat.reduceAdd, Nat.reduceMul, Nat.reduceLeDiff]
          exact tb_24 w4
        · simp (disch := omega) only [s_lit, s_b0, s_b1, s_b2, s_b3, s_b4, s_b5, s_b6, s_x0, s_x0l, s_t1, s_nm, s_ckT, s_ld, s_st, s_clamp, nI_add, pk_mul, s_sub, s_nad, s_div, s_mod, s_rem2, s_le_t, s_le_f, s_lt_t, s_lt_f, s_eq_t, s_eq_f, s_n1, s_n2, s_n3, s_n4, s_n5, s_n6, s_n7, s_n8, s_n9, s_n10, s_n11, s_n12, s_us, s_un, s_uLs, s_uLn, ↓reduceIte, not_false_eq_true, not_true_eq_false, true_and, and_true, and_self, or_false, false_or, or_self, true_or, or_true, false_and, and_false, Int32.neg_neg, Nat.add_zero, Nat.zero_add, Nat.reduceSub, Nat.reduceAdd, Nat.reduceMul, Nat.reduceLeDiff]
          exact tb_16 w4
        · simp (disch := omega) only [s_lit, s_b0, s_b1, s_b2, s_b3, s_b4, s_b5, s_b6, s_x0, s_x0l, s_t1, s_nm, s_ckT, s_ld, s_st, s_clamp, nI_add, pk_mul, s_sub, s_nad, s_div, s_mod, s_rem2, s_le_t, s_le_f, s_lt_t, s_lt_f, s_eq_t, s_eq_f, s_n1, s_n2, s_n3, s_n4, s_n5, s_n6, s_n7, s_n8, s_n9, s_n10, s_n11, s_n12, s_us, s_un, s_uLs, s_uLn, ↓reduceIte, not_false_eq_true, not_true_eq_false, true_and, and_true, and_self, or_false, false_or, or_self, true_or, or_true, false_and, and_false, Int32.neg_neg, Nat.add_zero, Nat.zero_add, Nat.reduceSub, Nat.reduceAdd, Nat.reduceMul, Nat.reduceLeDiff]
          exact tb_8 w4
        · simp (disch := omega) only [s_lit, s_b0, s_b1, s_b2, s_b3, s_b4, s_b5, s_b6, s_x0, s_x0l, s_t1, s_nm, s_ckT, s_ld, s_st, s_clamp, nI_add, pk_mul, s_sub, s_nad, s_div, s_mod, s_rem2, s_le_t, s_le_f, s_lt_t, s_lt_f, s_eq_t, s_eq_f, s_n1, s_n2, s_n3, s_n4, s_n5, s_n6, s_n7, s_n8, s_n9, s_n10, s_n11, s_n12, s_us, s_un, s_uLs, s_uLn, ↓reduceIte, not_false_eq_true, not_true_eq_false, true_and, and_true, and_self, or_false, false_or, or_self, true_or, or_true, false_and, and_false, Int32.neg_neg, Nat.add_zero, Nat.zero_add, Nat.reduceSub, Nat.reduceAdd, Nat.reduceMul, Nat.reduceLeDiff]
          exact tb_0 w4
  · refine ⟨-nI 1, f, bytes, buffer, ?_, ?_, hf, hB⟩
    · rw [show (20 : Int32) = nI 20 from rfl, nI_add, if_pos (show (800 : Int32) < nI (f + 20) from nI_lt (a := 800) (by omega) (by omega)), s_b1, if_pos rfl]
      rfl
    · rw [show (20 : Int32) = nI 20 from rfl, nI_add, if_neg (show ¬ nI (f + 20) ≤ (800 : Int32) from nI_ge (a := 800) (by omega) (by omega))]
      rfl
