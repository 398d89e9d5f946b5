/-! NUMBERS: the law's collecting of a text: put, flush, write, writeNumber, writeAll -/
def chN (tx : List Int32) (i : Nat) : Nat := (tx.getD i 0).toNatClampNeg
theorem chN_lt {tx : List Int32} (h : ascS tx) (i : Nat) : chN tx i < 128 := by
  unfold chN
  by_cases c : i < tx.length
  · have e : tx.getD i 0 = tx[i] := by simp [List.getD_eq_getElem?_getD, c]
    obtain ⟨n, hn, e2⟩ := asc_nI (h _ (List.getElem_mem c))
    rw [e, e2, nI_clamp (by omega)]; exact hn
  · have e : tx.getD i 0 = 0 := by simp [List.getD_eq_getElem?_getD, Nat.le_of_not_lt c]
    rw [e]; decide
theorem chN_at {tx : List Int32} (h : ascS tx) (i : Nat) : tx.getD i 0 = nI (chN tx i) := by
  unfold chN
  by_cases c : i < tx.length
  · have e : tx.getD i 0 = tx[i] := by simp [List.getD_eq_getElem?_getD, c]
    obtain ⟨n, hn, e2⟩ := asc_nI (h _ (List.getElem_mem c))
    rw [e, e2, nI_clamp (by omega)]
  · have e : tx.getD i 0 = 0 := by simp [List.getD_eq_getElem?_getD, Nat.le_of_not_lt c]
    rw [e]; rfl
theorem chN_out {tx : List Int32} {i : Nat} (h : tx.length ≤ i) : chN tx i = 0 := by
  unfold chN
  rw [show tx.getD i 0 = 0 by simp [List.getD_eq_getElem?_getD, h]]; decide
theorem chN_lo {tx s : List Int32} {i : Nat} (h : i < tx.length) : chN (tx ++ s) i = chN tx i := by
  unfold chN; rw [getD_appL h]
theorem chN_hi {tx s : List Int32} (i : Nat) : chN (tx ++ s) (tx.length + i) = chN s i := by
  unfold chN; rw [getD_appR (by omega), show tx.length + i - tx.length = i by omega]
def w4 (tx : List Int32) (i : Nat) : Nat := chN tx i * 16777216 + chN tx (i + 1) * 65536 + chN tx (i + 2) * 256 + chN tx (i + 3)
theorem w4_lt {tx : List Int32} (h : ascS tx) (i : Nat) : w4 tx i < 2 ^ 31 := by
  have := chN_lt h i
  have := chN_lt h (i + 1)
  have := chN_lt h (i + 2)
  have := chN_lt h (i + 3)
  unfold w4; omega
theorem w4_out {tx : List Int32} {i : Nat} (h : tx.length ≤ i) : w4 tx i = 0 := by
  unfold w4; rw [chN_out h, chN_out (by omega), chN_out (by omega), chN_out (by omega)]
theorem w4_lo {tx s : List Int32} {i : Nat} (h : i + 4 ≤ tx.length) : w4 (tx ++ s) i = w4 tx i := by
  unfold w4; rw [chN_lo (by omega), chN_lo (by omega), chN_lo (by omega), chN_lo (by omega)]
theorem rt_at {P s k : Nat} (hP : P < 2 ^ 31) (hs : ((nI s &&& 31).toBitVec.smod 32).toNat = k) : (nI P >>> (nI s &&& 31)) &&& 255 = nI (P / 2 ^ k % 256) := by
  rw [pk_shrN hP _ k hs, pk_andN (Nat.lt_of_le_of_lt (Nat.div_le_self _ _) (by omega)) 8 (by decide)]
theorem bt_of {P s c t : Nat} (hT : TB (bt (nI P) s) ((nI P >>> (nI s &&& 31)) &&& 255)) (hr : (nI P >>> (nI s &&& 31)) &&& 255 = nI t) (ht : t = c) (hc : c < 128) : bt (nI P) s = nI c := by
  obtain ⟨t2, h1, h2, -, h4, -⟩ := hT
  rw [hr] at h2
  have h3 := (nI_eq (by omega) (by omega)).mp h2
  rw [h4 (by omega)]; congr 1; omega
theorem bt_w4 {tx : List Int32} (h : ascS tx) (i : Nat) : bt (nI (w4 tx i)) 24 = nI (chN tx i) ∧ bt (nI (w4 tx i)) 16 = nI (chN tx (i + 1)) ∧ bt (nI (w4 tx i)) 8 = nI (chN tx (i + 2)) ∧ bt (nI (w4 tx i)) 0 = nI (chN tx (i + 3)) := by
  have a0 := chN_lt h i
  have a1 := chN_lt h (i + 1)
  have a2 := chN_lt h (i + 2)
  have a3 := chN_lt h (i + 3)
  have hw := w4_lt h i
  refine ⟨bt_of (tb_24 _) (rt_at (k := 24) hw (by decide)) ?_ a0, bt_of (tb_16 _) (rt_at (k := 16) hw (by decide)) ?_ a1, bt_of (tb_8 _) (rt_at (k := 8) hw (by decide)) ?_ a2, bt_of (tb_0 _) (rt_at (k := 0) hw (by decide)) ?_ a3⟩ <;> unfold w4 <;> omega
theorem put4_lo {b : Nat → Int32} {f j : Nat} {w : Int32} (h : j < f) : put4 b f w j = b j := by
  unfold put4; rw [pk_un (by omega), pk_un (by omega), pk_un (by omega), pk_un (by omega)]
theorem put4_w4 {tx : List Int32} (h : ascS tx) {b : Nat → Int32} {m : Nat} (hb : ∀ j, j < m → b j = nI (chN tx j)) : ∀ j, j < m + 4 → put4 b m (nI (w4 tx m)) j = nI (chN tx j) := by
  intro j hj
  obtain ⟨t0, t1, t2, t3⟩ := bt_w4 h m
  by_cases c : j < m
  · rw [put4_lo c, hb j c]
  · unfold put4
    rcases (show j = m ∨ j = m + 1 ∨ j = m + 2 ∨ j = m + 3 by omega) with rfl | rfl | rfl | rfl
    · rw [pk_un (by omega), pk_un (by omega), pk_un (by omega), pk_us, t0]
    · rw [pk_un (by omega), pk_un (by omega), pk_us, t1]
    · rw [pk_un (by omega), pk_us, t2]
    · rw [pk_us, t3]
theorem q_flushL {f : Int32} {b : Nat → Int32} : ∀ (fuel k : Nat) (B : Nat → Int32), 6 - k < fuel → k ≤ 6 → L_flush_L22 8 fuel (nI k) f b B = some (f, b, fun j => if k ≤ j ∧ j < 6 then 0 else B j) := by
  intro fuel
  induction fuel with
  | zero => intro k B h; omega
  | succ fuel ih =>
    intro k B h hk
    rw [L_flush_L22]
    by_cases c : k = 6
    · subst c
      rw [if_pos (show (6 : Int32) ≤ nI 6 by decide)]
      have e : (fun j => if 6 ≤ j ∧ j < 6 then 0 else B j) = B := by funext j; exact if_neg (by omega)
      rw [e]
    · rw [if_neg (show ¬ (6 : Int32) ≤ nI k from nI_ge (a := k) (b := 6) (by omega) (by decide)), s_st (by omega) (by decide), s_nm, s_clamp (by omega), nI_1, ih (k + 1) _ (by omega) (by omega)]
      congr 3
      funext j
      by_cases c1 : k + 1 ≤ j ∧ j < 6
      · rw [if_pos c1, if_pos (by omega)]
      · rw [if_neg c1]
        by_cases c2 : j = k
        · subst c2; rw [pk_us, if_pos (by omega)]
        · rw [pk_un c2, if_neg (by omega)]
theorem tx_flush {tx : List Int32} {m : Nat} {bytes B : Nat → Int32} (ha : ascS tx) (hm : m + 20 ≤ 800) (hb : ∀ j, j < m → bytes j = nI (chN tx j)) (hB : ∀ q, q < 5 → B (1 + q) = nI (w4 tx (m + 4 * q))) : ∃ b2, L_flush 8 (nI m) bytes B = some (nI (m + 20), b2, fun j => if 1 ≤ j ∧ j < 6 then 0 else B j) ∧ ∀ j, j < m + 20 → b2 j = nI (chN tx j) := by
  have e0 := hB 0 (by decide)
  have e1 := hB 1 (by decide)
  have e2 := hB 2 (by decide)
  have e3 := hB 3 (by decide)
  have e4 := hB 4 (by decide)
  unfold L_flush X6_append X3_hasRoomFor
  rw [show (1 : Int32) = nI 1 from rfl, show (2 : Int32) = nI 2 from rfl, show (3 : Int32) = nI 3 from rfl, show (4 : Int32) = nI 4 from rfl, show (5 : Int32) = nI 5 from rfl]
  rw [s_ld (by decide) (by decide), s_ld (by decide) (by decide), s_ld (by decide) (by decide), s_ld (by decide) (by decide), s_ld (by decide) (by decide)]
  refine ⟨put4 (put4 (put4 (put4 (put4 bytes m (B 1)) (m + 4) (B 2)) (m + 4 + 4) (B 3)) (m + 4 + 4 + 4) (B 4)) (m + 4 + 4 + 4 + 4) (B 5), ?_, ?_⟩
  · rw [show (20 : Int32) = nI 20 from rfl, nI_add, if_neg (show ¬ (800 : Int32) < nI (m + 20) from nI_nlt (a := 800) hm (by omega)), q_bn1, if_neg (by decide), q_b2 (q_put bytes (B 1) (by omega)), q_b2 (q_put _ (B 2) (by omega)), q_b2 (q_put _ (B 3) (by omega)), q_b2 (q_put _ (B 4) (by omega)), q_b2 (q_put _ (B 5) (by omega))]
    rw [s_b3]
    exact q_flushL FU 1 B (by unfold FU; omega) (by omega)
  · rw [show B 1 = nI (w4 tx m) from e0, show B 2 = nI (w4 tx (m + 4)) from e1, show B 3 = nI (w4 tx (m + 4 + 4)) from e2, show B 4 = nI (w4 tx (m + 4 + 4 + 4)) from e3, show B 5 = nI (w4 tx (m + 4 + 4 + 4 + 4)) from e4]
    exact put4_w4 ha (put4_w4 ha (put4_w4 ha (put4_w4 ha (put4_w4 ha hb))))
/-- the text tx is collected: whole twenties in the class' buffer, the rest in the rows 1 to 5 -/
def TxR (tx : List Int32) (filled : Int32) (bytes B : Nat → Int32) : Prop :=
  ascS tx ∧ tx.length ≤ 780 ∧ filled = nI (tx.length / 20 * 20) ∧ (∀ j, j < tx.length / 20 * 20 → bytes j = nI (chN tx j)) ∧ B 0 = nI tx.length ∧ ∀ q, q < 5 → B (1 + q) = nI (w4 tx (tx.length / 20 * 20 + 4 * q))
theorem nI_or {a b : Nat} (ha : a < 2 ^ 32) (hb : b < 2 ^ 32) : nI a ||| nI b = nI (a ||| b) := by
  apply Int32.toBitVec_inj.mp
  rw [Int32.toBitVec_or]
  apply BitVec.eq_of_toNat_eq
  rw [BitVec.toNat_or, pk_tn ha, pk_tn hb, pk_tn (Nat.or_lt_two_pow ha hb)]
theorem or_add {X y i : Nat} (h : y < 2 ^ i) : (2 ^ i * X) ||| y = 2 ^ i * X + y := (Nat.two_pow_add_eq_or_of_lt h X).symm
/-- a letter into a word: behind it all is 0 -/
theorem w4_put {tx : List Int32} {c : Int32} (ha : ascS tx) (hc : asc c) (q r : Nat) (hr : r < 4) (hk : tx.length = q + r) :
    nI (w4 tx q) ||| (c <<< (nI (24 - 8 * r) &&& 31)) = nI (w4 (tx ++ [c]) q) := by
  obtain ⟨n, hn, rfl⟩ := asc_nI hc
  have hs : ascS (tx ++ [nI n]) := ascS_app ha (fun x hx => by rw [List.mem_singleton.mp hx]; exact hc)
  have hi : chN (tx ++ [nI n]) (tx.length + 0) = n := by rw [chN_hi]; unfold chN; exact nI_clamp (by omega)
  rw [Nat.add_zero, hk] at hi
  have a0 := chN_lt ha q
  have a1 := chN_lt ha (q + 1)
  have a2 := chN_lt ha (q + 2)
  rcases (show r = 0 ∨ r = 1 ∨ r = 2 ∨ r = 3 by omega) with rfl | rfl | rfl | rfl
  · have hi : chN (tx ++ [nI n]) q = n := hi
    rw [pk_shlN _ 24 (by decide) (by omega), w4_out (by omega), nI_or (by omega) (by omega), Nat.zero_or]
    unfold w4
    rw [hi, chN_out (tx := tx ++ [nI n]) (by rw [List.length_append]; show _ + 1 ≤ _; omega), chN_out (tx := tx ++ [nI n]) (by rw [List.length_append]; show _ + 1 ≤ _; omega), chN_out (tx := tx ++ [nI n]) (by rw [List.length_append]; show _ + 1 ≤ _; omega)]
    exact congrArg nI (by omega)
  · rw [pk_shlN _ 16 (by decide) (by omega), nI_or (Nat.lt_trans (w4_lt ha q) (by decide)) (by omega)]
    unfold w4
    rw [hi, chN_lo (show q < tx.length by omega), chN_out (tx := tx ++ [nI n]) (by rw [List.length_append]; show _ + 1 ≤ _; omega), chN_out (tx := tx ++ [nI n]) (by rw [List.length_append]; show _ + 1 ≤ _; omega), chN_out (show tx.length ≤ q + 1 by omega), chN_out (show tx.length ≤ q + 2 by omega), chN_out (show tx.length ≤ q + 3 by omega)]
    rw [show chN tx q * 16777216 + 0 * 65536 + 0 * 256 + 0 = 2 ^ 24 * chN tx q by omega, or_add (by omega)]
    exact congrArg nI (by omega)
  · rw [pk_shlN _ 8 (by decide) (by omega), nI_or (Nat.lt_trans (w4_lt ha q) (by decide)) (by omega)]
    unfold w4
    rw [hi, chN_lo (show q < tx.length by omega), chN_lo (show q + 1 < tx.length by omega), chN_out (tx := tx ++ [nI n]) (by rw [List.length_append]; show _ + 1 ≤ _; omega), chN_out (show tx.length ≤ q + 2 by omega), chN_out (show tx.length ≤ q + 3 by omega)]
    rw [show chN tx q * 16777216 + chN tx (q + 1) * 65536 + 0 * 256 + 0 = 2 ^ 16 * (chN tx q * 256 + chN tx (q + 1)) by omega, or_add (by omega)]
    exact congrArg nI (by omega)
  · rw [pk_shlN _ 0 (by decide) (by omega), nI_or (Nat.lt_trans (w4_lt ha q) (by decide)) (by omega)]
    unfold w4
    rw [hi, chN_lo (show q < tx.length by omega), chN_lo (show q + 1 < tx.length by omega), chN_lo (show q + 2 < tx.length by omega), chN_out (show tx.length ≤ q + 3 by omega)]
    rw [show chN tx q * 16777216 + chN tx (q + 1) * 65536 + chN tx (q + 2) * 256 + 0 = 2 ^ 8 * (chN tx q * 65536 + chN tx (q + 1) * 256 + chN tx (q + 2)) by omega, Nat.pow_zero, Nat.mul_one, or_add (by omega)]
    exact congrArg nI (by omega)
theorem tx_put {tx : List Int32} {filled c : Int32} {bytes B : Nat → Int32} (T : TxR tx filled bytes B) (hc : asc c) (hl : tx.length < 780) : ∃ f2 b2 B2, L_put 8 filled bytes B c = some (f2, b2, B2) ∧ TxR (tx ++ [c]) f2 b2 B2 := by
  obtain ⟨ha, h780, rfl, hb, h0, hB⟩ := T
  obtain ⟨k, ek⟩ : ∃ k, k = tx.length := ⟨_, rfl⟩
  have hl1 : (tx ++ [c]).length = k + 1 := by rw [List.length_append, ek]; rfl
  have hs : ascS (tx ++ [c]) := ascS_app ha (fun x hx => by rw [List.mem_singleton.mp hx]; exact hc)
  rw [← ek] at h0 hb hB hl ⊢
  have hq5 : k % 20 / 4 < 5 := by omega
  have e5 : B (1 + k % 20 / 4) = nI (w4 tx (k - k % 4)) := by rw [hB _ hq5]; congr 2; omega
  have eput := w4_put ha hc (k - k % 4) (k % 4) (by omega) (by omega)
  obtain ⟨B1, eB1⟩ : ∃ B1, B1 = upd (upd B (1 + k % 20 / 4) (nI (w4 (tx ++ [c]) (k - k % 4)))) 0 (nI (k + 1)) := ⟨_, rfl⟩
  have f0 : B1 0 = nI (k + 1) := by rw [eB1, pk_us]
  have f5 : ∀ q, q < 5 → B1 (1 + q) = nI (w4 (tx ++ [c]) (k / 20 * 20 + 4 * q)) := by
    intro q hq
    rw [eB1, pk_un (by omega)]
    by_cases cq : q = k % 20 / 4
    · rw [cq, pk_us]; congr 2; omega
    · rw [pk_un (by omega), hB q hq]
      by_cases c2 : q < k % 20 / 4
      · rw [w4_lo (by omega)]
      · rw [w4_out (by omega), w4_out (by omega)]
  have estep : L_put 8 (nI (k / 20 * 20)) bytes B c = (if nI ((k + 1) % 20) = 0 then (bn3 (L_flush 8 (nI (k / 20 * 20)) bytes B1) fun (o19 : Int32) (o20 : Nat → Int32) (o21 : Nat → Int32) => some (o19, o20, o21)) else some (nI (k / 20 * 20), bytes, B1)) := by
    unfold L_put
    rw [show (0 : Int32) = nI 0 from rfl, s_ld (by decide) (by decide), h0, s_nm, show (20 : Int32) = nI 20 from rfl, pk_rem (by omega) (by decide) (by decide), show (4 : Int32) = nI 4 from rfl, pk_div (by omega) (by decide) (by decide), show (1 : Int32) = nI 1 from rfl, nI_add, s_ld (by omega) (by decide), s_ld (by decide) (by decide), h0, s_nm, pk_rem (by omega) (by decide) (by decide), s_st (by omega) (by decide), s_clamp (by omega), e5, show (8 : Int32) = nI 8 from rfl, show (24 : Int32) = nI 24 from rfl, pk_mul, pk_sub (by omega), eput]
    rw [s_ld (by decide) (by decide), pk_un (by omega), h0, nI_add, s_st (by decide) (by decide), s_clamp (by decide), ← eB1, s_ld (by decide) (by decide), f0, s_nm, pk_rem (by omega) (by decide) (by decide)]
  rw [estep]
  by_cases cz : (k + 1) % 20 = 0
  · rw [if_pos (by rw [cz]; rfl)]
    obtain ⟨b2, g1, g2⟩ := tx_flush (tx := tx ++ [c]) (m := k / 20 * 20) (bytes := bytes) (B := B1) hs (by omega) (fun j hj => by rw [hb j hj, chN_lo (by omega)]) f5
    rw [q_b3 g1]
    refine ⟨_, _, _, rfl, hs, by omega, by rw [hl1]; congr 1; omega, fun j hj => g2 j (by rw [hl1] at hj; omega), ?_, fun q hq => ?_⟩
    · show (if 1 ≤ 0 ∧ 0 < 6 then 0 else B1 0) = _
      rw [if_neg (by omega), f0, hl1]
    · show (if 1 ≤ 1 + q ∧ 1 + q < 6 then 0 else B1 (1 + q)) = _
      rw [if_pos (by omega), w4_out (by rw [hl1]; omega)]; rfl
  · rw [if_neg (show ¬ nI ((k + 1) % 20) = (0 : Int32) from fun z => cz ((nI_eq (b := 0) (by omega) (by decide)).mp z))]
    refine ⟨_, _, _, rfl, hs, by omega, by rw [hl1]; congr 1; omega, fun j hj => ?_, by rw [f0, hl1], fun q hq => ?_⟩
    · rw [hl1] at hj
      rw [hb j (by omega), chN_lo (by omega)]
    · rw [f5 q hq, hl1]; congr 2; omega
theorem kCh_at {s : List Int32} (h : ascS s) {i : Nat} (hi : i < 2 ^ 31) : kCh s (nI i) = nI (chN s i) := by
  have hc := chN_lt h i
  unfold kCh
  rw [nI_clamp hi, chN_at h i, show (255 : Int32) = nI 255 from rfl, pk_andN (by omega) (m := nI 255) 8 (by decide), Nat.mod_eq_of_lt (show chN s i < 2 ^ 8 by omega)]
  exact (sb_byte _ (by omega)).2.1
theorem asc_ch {s : List Int32} (h : ascS s) (i : Nat) : asc (nI (chN s i)) := ⟨nI_pos' (by have := chN_lt h i; omega), nI_lt (b := 128) (chN_lt h i) (by decide)⟩
theorem take_ch {s : List Int32} (h : ascS s) {i : Nat} (hi : i < s.length) : s.take i ++ [nI (chN s i)] = s.take (i + 1) := by
  rw [← chN_at h i, List.take_add_one]
  congr 1
  simp [List.getD_eq_getElem?_getD, hi]
theorem tx_writeL {s tx : List Int32} (h : ascS s) (hl : tx.length + s.length ≤ 780) : ∀ (fuel i : Nat) (filled : Int32) (bytes B : Nat → Int32), s.length - i < fuel → i ≤ s.length → TxR (tx ++ s.take i) filled bytes B → ∃ f2 b2 B2, L_write_L2 8 s fuel (nI i) filled bytes B = some (f2, b2, B2) ∧ TxR (tx ++ s) f2 b2 B2 := by
  intro fuel
  induction fuel with
  | zero => intro i f b B h1; omega
  | succ fuel ih =>
    intro i f b B h1 h2 T
    rw [L_write_L2, J0_length_8abf5, q_ck (by omega), q_bn1]
    by_cases c : i < s.length
    · rw [if_neg (nI_ge c (by omega)), J0_charAt_5068e, q_ck ⟨by omega, nI_pos (by omega), nI_lt c (by omega)⟩, q_bn1, kCh_at h (by omega)]
      obtain ⟨f2, b2, B2, g1, g2⟩ := tx_put T (asc_ch h i) (by rw [List.length_append, List.length_take]; omega)
      rw [q_b3 g1, s_nm, nI_1]
      rw [List.append_assoc, take_ch h c] at g2
      exact ih (i + 1) f2 b2 B2 (by omega) (by omega) g2
    · rw [if_pos (nI_le (by omega) (by omega))]
      have e : i = s.length := by omega
      rw [e, List.take_length] at T
      exact ⟨_, _, _, rfl, T⟩
theorem tx_write {s tx : List Int32} {filled : Int32} {bytes B : Nat → Int32} (h : ascS s) (hl : tx.length + s.length ≤ 780) (T : TxR tx filled bytes B) : ∃ f2 b2 B2, L_write 8 s filled bytes B = some (f2, b2, B2) ∧ TxR (tx ++ s) f2 b2 B2 := by
  unfold L_write
  exact tx_writeL h hl FU 0 filled bytes B (by unfold FU; omega) (Nat.zero_le _) (by rw [List.take_zero, List.append_nil]; exact T)
/-- the digits of v from the place k downwards -/
def ddig (v : Nat) : Nat → List Int32
  | 0 => [nI (48 + v % 10)]
  | k + 1 => nI (48 + v / 10 ^ (k + 1) % 10) :: ddig v k
theorem ddig_len (v : Nat) : ∀ k, (ddig v k).length = k + 1
  | 0 => rfl
  | k + 1 => by rw [ddig, List.length_cons, ddig_len v k]
theorem ddig_dcs {v : Nat} : v < 10000 → dcs v = ddig v (dcn v - 1) := by
  intro h
  unfold dcs dcn
  by_cases c1 : v < 10
  · rw [if_pos c1, if_pos c1]
    show [nI (48 + v)] = [nI (48 + v % 10)]
    rw [Nat.mod_eq_of_lt c1]
  · rw [if_neg c1, if_neg c1]
    by_cases c2 : v < 100
    · rw [if_pos c2, if_pos c2]
      show [nI (48 + v / 10), nI (48 + v % 10)] = [nI (48 + v / 10 ^ 1 % 10), nI (48 + v % 10)]
      rw [Nat.pow_one, Nat.mod_eq_of_lt (show v / 10 < 10 by omega)]
    · rw [if_neg c2, if_neg c2]
      by_cases c3 : v < 1000
      · rw [if_pos c3, if_pos c3]
        show [nI (48 + v / 100), nI (48 + v / 10 % 10), nI (48 + v % 10)] = [nI (48 + v / 10 ^ 2 % 10), nI (48 + v / 10 ^ 1 % 10), nI (48 + v % 10)]
        rw [Nat.pow_one, show (10 : Nat) ^ 2 = 100 from rfl, Nat.mod_eq_of_lt (show v / 100 < 10 by omega)]
      · rw [if_neg c3, if_neg c3]
        show [nI (48 + v / 1000), nI (48 + v / 100 % 10), nI (48 + v / 10 % 10), nI (48 + v % 10)] = [nI (48 + v / 10 ^ 3 % 10), nI (48 + v / 10 ^ 2 % 10), nI (48 + v / 10 ^ 1 % 10), nI (48 + v % 10)]
        rw [Nat.pow_one, show (10 : Nat) ^ 2 = 100 from rfl, show (10 : Nat) ^ 3 = 1000 from rfl, Nat.mod_eq_of_lt (show v / 1000 < 10 by omega)]
theorem p10_lt {k : Nat} (h : k ≤ 4) : 0 < 10 ^ k ∧ 10 ^ k < 2 ^ 31 := by
  rcases (show k = 0 ∨ k = 1 ∨ k = 2 ∨ k = 3 ∨ k = 4 by omega) with rfl | rfl | rfl | rfl | rfl <;> decide
theorem tx_numL {v : Nat} (hv : v < 10000) : ∀ (k fuel : Nat) (tx : List Int32) (filled : Int32) (bytes B : Nat → Int32), k ≤ 4 → k + 1 < fuel → tx.length + (k + 1) ≤ 780 → TxR tx filled bytes B → ∃ f2 b2 B2, L_writeNumber_L18 8 (nI v) fuel (nI (10 ^ k)) filled bytes B = some (f2, b2, B2) ∧ TxR (tx ++ ddig v k) f2 b2 B2 := by
  intro k
  induction k with
  | zero =>
    intro fuel tx f b B _ hf hl T
    obtain ⟨fuel, rfl⟩ : ∃ g, fuel = g + 1 + 1 := ⟨fuel - 2, by omega⟩
    rw [L_writeNumber_L18, Nat.pow_zero, if_neg (by decide), q_ck (by decide), s_nm, pk_div (by omega) (by decide) (by decide), Nat.div_one, show (10 : Int32) = nI 10 from rfl, pk_rem (by omega) (by decide) (by decide), show (48 : Int32) = nI 48 from rfl, nI_add]
    obtain ⟨f2, b2, B2, g1, g2⟩ := tx_put T (asc_d (k := v % 10) (by omega)) (by omega)
    rw [q_b3 g1, s_nm, pk_div (by decide) (by decide) (by decide), L_writeNumber_L18, if_pos (by decide)]
    exact ⟨_, _, _, rfl, g2⟩
  | succ k ih =>
    intro fuel tx f b B hk hf hl T
    obtain ⟨fuel, rfl⟩ : ∃ g, fuel = g + 1 := ⟨fuel - 1, by omega⟩
    have hp := p10_lt hk
    have hd : v / 10 ^ (k + 1) < 10000 := Nat.lt_of_le_of_lt (Nat.div_le_self _ _) hv
    rw [L_writeNumber_L18, if_neg (show ¬ nI (10 ^ (k + 1)) ≤ 0 from nI_nle hp.1 hp.2), q_ck (nI_ne0 hp.1 hp.2), s_nm, pk_div (by omega) hp.1 hp.2, show (10 : Int32) = nI 10 from rfl, pk_rem (by omega) (by decide) (by decide), show (48 : Int32) = nI 48 from rfl, nI_add]
    obtain ⟨f2, b2, B2, g1, g2⟩ := tx_put T (asc_d (k := v / 10 ^ (k + 1) % 10) (by omega)) (by omega)
    rw [q_b3 g1, s_nm, pk_div hp.2 (by decide) (by decide), show 10 ^ (k + 1) / 10 = 10 ^ k from by rw [Nat.pow_succ]; exact Nat.mul_div_cancel _ (by decide)]
    obtain ⟨f3, b3, B3, g3, g4⟩ := ih fuel (tx ++ [nI (48 + v / 10 ^ (k + 1) % 10)]) f2 b2 B2 (by omega) (by omega) (by rw [List.length_append]; show _ + 1 + (k + 1) ≤ 780; omega) g2
    refine ⟨f3, b3, B3, g3, ?_⟩
    rw [List.append_assoc] at g4
    exact g4
theorem tx_numP {v : Nat} (hv : v < 10000) {filled : Int32} {bytes B : Nat → Int32} : ∀ (n fuel : Nat), n ≤ dcn v - 1 → dcn v < fuel + n → L_writeNumber_L2 8 filled bytes B (nI v) fuel (nI (10 ^ n)) = L_writeNumber_L18 8 (nI v) FU (nI (10 ^ (dcn v - 1))) filled bytes B := by
  have hd := dcn_le v
  have key : ∀ n, n < dcn v - 1 → ¬ v / 10 < 10 ^ n := by
    intro n hn
    unfold dcn at hn
    by_cases c1 : v < 10
    · rw [if_pos c1] at hn; omega
    · rw [if_neg c1] at hn
      by_cases c2 : v < 100
      · rw [if_pos c2] at hn
        obtain rfl : n = 0 := by omega
        rw [Nat.pow_zero]; omega
      · rw [if_neg c2] at hn
        by_cases c3 : v < 1000
        · rw [if_pos c3] at hn
          rcases (show n = 0 ∨ n = 1 by omega) with rfl | rfl
          · rw [Nat.pow_zero]; omega
          · rw [Nat.pow_one]; omega
        · rw [if_neg c3] at hn
          rcases (show n = 0 ∨ n = 1 ∨ n = 2 by omega) with rfl | rfl | rfl
          · rw [Nat.pow_zero]; omega
          · rw [Nat.pow_one]; omega
          · rw [show (10 : Nat) ^ 2 = 100 from rfl]; omega
  have last : v / 10 < 10 ^ (dcn v - 1) := by
    unfold dcn
    by_cases c1 : v < 10
    · rw [if_pos c1, show 1 - 1 = 0 from rfl, Nat.pow_zero]; omega
    · rw [if_neg c1]
      by_cases c2 : v < 100
      · rw [if_pos c2, show 2 - 1 = 1 from rfl, Nat.pow_one]; omega
      · rw [if_neg c2]
        by_cases c3 : v < 1000
        · rw [if_pos c3, show 3 - 1 = 2 from rfl, show (10 : Nat) ^ 2 = 100 from rfl]; omega
        · rw [if_neg c3, show 4 - 1 = 3 from rfl, show (10 : Nat) ^ 3 = 1000 from rfl]; omega
  intro n fuel
  induction fuel generalizing n with
  | zero => intro h1 h2; omega
  | succ fuel ih =>
    intro h1 h2
    have hp := p10_lt (k := n) (by omega)
    rw [L_writeNumber_L2, show (10 : Int32) = nI 10 from rfl, pk_div (by omega) (by decide) (by decide)]
    by_cases c : n = dcn v - 1
    · rw [if_pos (nI_lt (c ▸ last) hp.2), c]
    · rw [if_neg (nI_nlt (Nat.not_lt.mp (key n (by omega))) (by omega)), s_nm, pk_mul, ← Nat.pow_succ]
      exact ih (n + 1) (by omega) (by omega)
theorem tx_number {v : Nat} {tx : List Int32} {filled : Int32} {bytes B : Nat → Int32} (hv : v < 10000) (hl : tx.length + (dcs v).length ≤ 780) (T : TxR tx filled bytes B) : ∃ f2 b2 B2, L_writeNumber 8 filled bytes B (nI v) = some (f2, b2, B2) ∧ TxR (tx ++ dcs v) f2 b2 B2 := by
  have hd := dcn_le v
  rw [dcs_len] at hl
  unfold L_writeNumber
  rw [show (1 : Int32) = nI (10 ^ 0) from rfl, tx_numP hv 0 FU (by omega) (by unfold FU; omega), ddig_dcs hv]
  exact tx_numL hv (dcn v - 1) FU tx filled bytes B (by omega) (by unfold FU; omega) (by omega) T
/-- numbers, a blank before each -/
def numT (v : Nat → Nat) : Nat → List Int32
  | 0 => []
  | k + 1 => numT v k ++ [32] ++ dcs (v k)
theorem numT_len (v : Nat → Nat) : ∀ k, (numT v k).length ≤ 5 * k
  | 0 => Nat.le_refl _
  | k + 1 => by
    have := numT_len v k
    have := (dcn_le (v k)).2
    rw [numT, List.length_append, List.length_append, dcs_len]
    show (numT v k).length + 1 + dcn (v k) ≤ 5 * (k + 1)
    omega
theorem numT_asc {v : Nat → Nat} : ∀ k, (∀ j, j < k → v j < 10000) → ascS (numT v k)
  | 0, _ => fun x hx => absurd hx List.not_mem_nil
  | k + 1, h => ascS_app (ascS_app (numT_asc k (fun j hj => h j (by omega))) (ascS_lit (by decide))) (dcs_asc (h k (by omega)))
theorem tx_allL {v : Nat → Nat} {n3 : Nat} {tx0 s : List Int32} {p3 : Nat → Int32} (hv : ∀ j, j < n3 → p3 j = nI (v j) ∧ v j < 10000) (h3 : n3 < 2 ^ 31) (hl : tx0.length + 5 * n3 ≤ 780) : ∀ (fuel i : Nat) (filled : Int32) (bytes B : Nat → Int32), n3 - i < fuel → i ≤ n3 → TxR (tx0 ++ numT v i) filled bytes B → ∃ f2 b2 B2, L_writeAll_L17 8 n3 s p3 fuel (nI n3) (nI i) filled bytes B = some (f2, b2, B2) ∧ TxR (tx0 ++ numT v n3) f2 b2 B2 := by
  intro fuel
  induction fuel with
  | zero => intro i f b B h1; omega
  | succ fuel ih =>
    intro i f b B h1 h2 T
    rw [L_writeAll_L17]
    by_cases c : i < n3
    · have hn := numT_len v i
      have hd := (dcn_le (v i)).2
      obtain ⟨e3, hv3⟩ := hv i c
      rw [if_neg (nI_ge c (by omega)), s_ld c (by omega), e3]
      obtain ⟨f2, b2, B2, g1, g2⟩ := tx_write (s := [32]) (ascS_lit (by decide)) (by rw [List.length_append]; show _ + 1 ≤ 780; omega) T
      rw [q_b3 g1]
      obtain ⟨f3, b3, B3, g3, g4⟩ := tx_number hv3 (by rw [List.length_append, List.length_append, dcs_len]; show _ + 1 + _ ≤ 780; omega) g2
      rw [q_b3 g3, s_nm, nI_1]
      refine ih (i + 1) f3 b3 B3 (by omega) (by omega) ?_
      rw [numT, ← List.append_assoc, ← List.append_assoc]
      exact g4
    · rw [if_pos (nI_le (by omega) (by omega))]
      obtain rfl : i = n3 := by omega
      exact ⟨_, _, _, rfl, T⟩
theorem tx_all {v : Nat → Nat} {n3 : Nat} {tx s : List Int32} {p3 : Nat → Int32} {filled : Int32} {bytes B : Nat → Int32} (hs : ascS s) (hv : ∀ j, j < n3 → p3 j = nI (v j) ∧ v j < 10000) (h3 : n3 < 1000) (hl : tx.length + s.length + 5 * n3 ≤ 780) (T : TxR tx filled bytes B) : ∃ f2 b2 B2, L_writeAll 8 n3 s filled bytes B p3 = some (f2, b2, B2) ∧ TxR (tx ++ s ++ numT v n3) f2 b2 B2 := by
  unfold L_writeAll
  obtain ⟨f2, b2, B2, g1, g2⟩ := tx_write hs (by omega) T
  rw [q_b3 g1, s_nm]
  exact tx_allL hv (by omega) (by rw [List.length_append]; omega) FU 0 f2 b2 B2 (by unfold FU; omega) (Nat.zero_le _) (by rw [numT, List.append_nil]; exact g2)
