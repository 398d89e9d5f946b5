/-! PHASE 2: rows for simp: a pure program runs by them where its numbers are known; omega does the side conditions -/
theorem s_lit (n : Nat) : (OfNat.ofNat n : Int32) = nI (OfNat.ofNat n) := Eq.trans rfl rfl
theorem s_nm {α β : Type} (x : α) (k : α → β) : nm x k = k x := Eq.trans rfl rfl
theorem s_ld {α β : Type} {a : Nat → α} {N n : Nat} {k : α → Option β} (h : n < N) (hN : N < 2 ^ 31) : ld a N (nI n) k = k (a n) := q_ld a n k rfl h hN
theorem s_st {α β : Type} {a : Nat → α} {N n : Nat} {k : (Nat → α) → Option β} (h : n < N) (hN : N < 2 ^ 31) : st N (nI n) a k = k a := q_st a n k rfl h hN
theorem s_clamp {n : Nat} (h : n < 2 ^ 31) : (nI n).toNatClampNeg = n := nI_clamp h
theorem s_le_t {a b : Nat} (h : a ≤ b) (hb : b < 2 ^ 31) : (nI a ≤ nI b) = True := eq_true (nI_le h hb)
theorem s_le_f {a b : Nat} (h : b < a) (ha : a < 2 ^ 31) : (nI a ≤ nI b) = False := eq_false (nI_ge h ha)
theorem s_lt_t {a b : Nat} (h : a < b) (hb : b < 2 ^ 31) : (nI a < nI b) = True := eq_true (nI_lt h hb)
theorem s_lt_f {a b : Nat} (h : b ≤ a) (ha : a < 2 ^ 31) : (nI a < nI b) = False := eq_false (nI_nlt h ha)
theorem s_eq_t {a b : Nat} (h : a = b) : (nI a = nI b) = True := eq_true (by rw [h])
theorem s_eq_f {a b : Nat} (h : a ≠ b) (ha : a < 2 ^ 31) (hb : b < 2 ^ 31) : (nI a = nI b) = False := eq_false (fun q => h ((nI_eq ha hb).mp q))
theorem s_sub {a b : Nat} (h : b ≤ a) : nI a - nI b = nI (a - b) := pk_sub h
theorem s_div {a d : Nat} (ha : a < 2 ^ 31) (h0 : 0 < d) (hd : d < 2 ^ 31) : nI a / nI d = nI (a / d) := pk_div ha h0 hd
theorem s_mod (a d : Nat) : a - a / d * d = a % d := by
  have h := Nat.div_add_mod a d
  rw [Nat.mul_comm] at h
  omega
theorem s_rem2 (t w : Nat) : nI t - nI (t / w * w) = nI (t % w) := by rw [pk_sub (Nat.div_mul_le_self t w), s_mod]
theorem s_negT {b : Nat} (h : b < 2 ^ 30) : (-nI b).toInt = -(b : Int) := by
  rw [Int32.toInt_neg, nI_toInt (by omega)]
  exact Int.bmod_eq_of_le (by omega) (by omega)
theorem s_n1 {a b : Nat} (h0 : 0 < b) (hb : b < 2 ^ 30) (ha : a < 2 ^ 30) : (nI a ≤ -nI b) = False := eq_false (fun q => by rw [Int32.le_iff_toInt_le, nI_toInt (by omega), s_negT hb] at q; omega)
theorem s_n2 {a b : Nat} (hb : b < 2 ^ 30) (ha : a < 2 ^ 30) : (nI a < -nI b) = False := eq_false (fun q => by rw [Int32.lt_iff_toInt_lt, nI_toInt (by omega), s_negT hb] at q; omega)
theorem s_n3 {a b : Nat} (h0 : 0 < b) (hb : b < 2 ^ 30) (ha : a < 2 ^ 30) : (-nI b < nI a) = True := eq_true (by rw [Int32.lt_iff_toInt_lt, nI_toInt (by omega), s_negT hb]; omega)
theorem s_n4 {a b : Nat} (hb : b < 2 ^ 30) (ha : a < 2 ^ 30) : (-nI b ≤ nI a) = True := eq_true (by rw [Int32.le_iff_toInt_le, nI_toInt (by omega), s_negT hb]; omega)
theorem s_n5 {a b : Nat} (h0 : 0 < b) (hb : b < 2 ^ 30) (ha : a < 2 ^ 30) : (nI a = -nI b) = False := eq_false (fun q => by have q := congrArg Int32.toInt q; rw [nI_toInt (by omega), s_negT hb] at q; omega)
theorem s_n6 {a b : Nat} (h0 : 0 < b) (hb : b < 2 ^ 30) (ha : a < 2 ^ 30) : (-nI b = nI a) = False := eq_false (fun q => by have q := congrArg Int32.toInt q; rw [nI_toInt (by omega), s_negT hb] at q; omega)
theorem s_n7 {a b : Nat} (h : a = b) : (-nI a = -nI b) = True := eq_true (by rw [h])
theorem s_n8 {a b : Nat} (h : a ≠ b) (ha : a < 2 ^ 30) (hb : b < 2 ^ 30) : (-nI a = -nI b) = False := eq_false (fun q => by have q := congrArg Int32.toInt q; rw [s_negT ha, s_negT hb] at q; omega)
theorem s_n9 {a b : Nat} (h : b < a) (ha : a < 2 ^ 30) : (-nI a < -nI b) = True := eq_true (by rw [Int32.lt_iff_toInt_lt, s_negT ha, s_negT (by omega)]; omega)
theorem s_n10 {a b : Nat} (h : a ≤ b) (hb : b < 2 ^ 30) : (-nI a < -nI b) = False := eq_false (fun q => by rw [Int32.lt_iff_toInt_lt, s_negT hb, s_negT (by omega)] at q; omega)
theorem s_n11 {a b : Nat} (h : b ≤ a) (ha : a < 2 ^ 30) : (-nI a ≤ -nI b) = True := eq_true (by rw [Int32.le_iff_toInt_le, s_negT ha, s_negT (by omega)]; omega)
theorem s_n12 {a b : Nat} (h : a < b) (hb : b < 2 ^ 30) : (-nI a ≤ -nI b) = False := eq_false (fun q => by rw [Int32.le_iff_toInt_le, s_negT hb, s_negT (by omega)] at q; omega)
theorem s_nad {a b : Nat} (h : b ≤ a) : nI a + -nI b = nI (a - b) := by rw [← Int32.sub_eq_add_neg, pk_sub h]
theorem s_us {f : Nat → Int32} {k j : Nat} {x : Int32} (h : j = k) : upd f k x j = x := by rw [h, pk_us]
theorem s_un {f : Nat → Int32} {k j : Nat} {x : Int32} (h : j ≠ k) : upd f k x j = f j := pk_un h
theorem s_uLs {f : Nat → Int64} {k j : Nat} {x : Int64} (h : j = k) : vp_updL f k x j = x := by rw [h, pk_uLs]
theorem s_uLn {f : Nat → Int64} {k j : Nat} {x : Int64} (h : j ≠ k) : vp_updL f k x j = f j := pk_uLn h
theorem s_cin {f g : Nat → Int32} {n j : Nat} (h : j < n) : va_cpy f g 0 0 n j = f j := by rw [pk_cpy_in (by omega) (by omega), show 0 + (j - 0) = j by omega]
theorem s_ckT {β : Type} (k : Option β) : ck True k = k := if_pos trivial
theorem s_b0 {β : Type} (k : Unit → Option β) : bn0 (some ()) k = k () := Eq.trans rfl rfl
theorem s_b1 {A0 β : Type} (a : A0) (k : A0 → Option β) : bn1 (some a) k = k a := Eq.trans rfl rfl
theorem s_b2 {A0 A1 β : Type} (a : A0) (b : A1) (k : A0 → A1 → Option β) : bn2 (some (a, b)) k = k a b := Eq.trans rfl rfl
theorem s_b3 {A0 A1 A2 β : Type} (a : A0) (b : A1) (c : A2) (k : A0 → A1 → A2 → Option β) : bn3 (some (a, b, c)) k = k a b c := Eq.trans rfl rfl
theorem s_b4 {A0 A1 A2 A3 β : Type} (a : A0) (b : A1) (c : A2) (d : A3) (k : A0 → A1 → A2 → A3 → Option β) : bn4 (some (a, b, c, d)) k = k a b c d := Eq.trans rfl rfl
theorem s_b5 {A0 A1 A2 A3 A4 β : Type} (a : A0) (b : A1) (c : A2) (d : A3) (e : A4) (k : A0 → A1 → A2 → A3 → A4 → Option β) : bn5 (some (a, b, c, d, e)) k = k a b c d e := Eq.trans rfl rfl
theorem s_b6 {A0 A1 A2 A3 A4 A5 β : Type} (a : A0) (b : A1) (c : A2) (d : A3) (e : A4) (f : A5) (k : A0 → A1 → A2 → A3 → A4 → A5 → Option β) : bn6 (some (a, b, c, d, e, f)) k = k a b c d e f := Eq.trans rfl rfl
theorem s_b8 {A0 A1 A2 A3 A4 A5 A6 A7 β : Type} (a0 : A0) (a1 : A1) (a2 : A2) (a3 : A3) (a4 : A4) (a5 : A5) (a6 : A6) (a7 : A7) (k : A0 → A1 → A2 → A3 → A4 → A5 → A6 → A7 → Option β) : bn8 (some (a0, a1, a2, a3, a4, a5, a6, a7)) k = k a0 a1 a2 a3 a4 a5 a6 a7 := Eq.trans rfl rfl
theorem q_b8 {A0 A1 A2 A3 A4 A5 A6 A7 β : Type} {x : Option (A0 × A1 × A2 × A3 × A4 × A5 × A6 × A7)} {a0 : A0} {a1 : A1} {a2 : A2} {a3 : A3} {a4 : A4} {a5 : A5} {a6 : A6} {a7 : A7} {k : A0 → A1 → A2 → A3 → A4 → A5 → A6 → A7 → Option β} (h : x = some (a0, a1, a2, a3, a4, a5, a6, a7)) : bn8 x k = k a0 a1 a2 a3 a4 a5 a6 a7 := by rw [h]; rfl
theorem s_b9 {A0 A1 A2 A3 A4 A5 A6 A7 A8 β : Type} (a0 : A0) (a1 : A1) (a2 : A2) (a3 : A3) (a4 : A4) (a5 : A5) (a6 : A6) (a7 : A7) (a8 : A8) (k : A0 → A1 → A2 → A3 → A4 → A5 → A6 → A7 → A8 → Option β) : bn9 (some (a0, a1, a2, a3, a4, a5, a6, a7, a8)) k = k a0 a1 a2 a3 a4 a5 a6 a7 a8 := Eq.trans rfl rfl
theorem q_b9 {A0 A1 A2 A3 A4 A5 A6 A7 A8 β : Type} {x : Option (A0 × A1 × A2 × A3 × A4 × A5 × A6 × A7 × A8)} {a0 : A0} {a1 : A1} {a2 : A2} {a3 : A3} {a4 : A4} {a5 : A5} {a6 : A6} {a7 : A7} {a8 : A8} {k : A0 → A1 → A2 → A3 → A4 → A5 → A6 → A7 → A8 → Option β} (h : x = some (a0, a1, a2, a3, a4, a5, a6, a7, a8)) : bn9 x k = k a0 a1 a2 a3 a4 a5 a6 a7 a8 := by rw [h]; rfl
theorem s_b11 {A0 A1 A2 A3 A4 A5 A6 A7 A8 A9 A10 β : Type} (a0 : A0) (a1 : A1) (a2 : A2) (a3 : A3) (a4 : A4) (a5 : A5) (a6 : A6) (a7 : A7) (a8 : A8) (a9 : A9) (a10 : A10) (k : A0 → A1 → A2 → A3 → A4 → A5 → A6 → A7 → A8 → A9 → A10 → Option β) : bn11 (some (a0, a1, a2, a3, a4, a5, a6, a7, a8, a9, a10)) k = k a0 a1 a2 a3 a4 a5 a6 a7 a8 a9 a10 := Eq.trans rfl rfl
theorem q_b11 {A0 A1 A2 A3 A4 A5 A6 A7 A8 A9 A10 β : Type} {x : Option (A0 × A1 × A2 × A3 × A4 × A5 × A6 × A7 × A8 × A9 × A10)} {a0 : A0} {a1 : A1} {a2 : A2} {a3 : A3} {a4 : A4} {a5 : A5} {a6 : A6} {a7 : A7} {a8 : A8} {a9 : A9} {a10 : A10} {k : A0 → A1 → A2 → A3 → A4 → A5 → A6 → A7 → A8 → A9 → A10 → Option β} (h : x = some (a0, a1, a2, a3, a4, a5, a6, a7, a8, a9, a10)) : bn11 x k = k a0 a1 a2 a3 a4 a5 a6 a7 a8 a9 a10 := by rw [h]; rfl
theorem s_b16 {A0 A1 A2 A3 A4 A5 A6 A7 A8 A9 A10 A11 A12 A13 A14 A15 β : Type} (a0 : A0) (a1 : A1) (a2 : A2) (a3 : A3) (a4 : A4) (a5 : A5) (a6 : A6) (a7 : A7) (a8 : A8) (a9 : A9) (a10 : A10) (a11 : A11) (a12 : A12) (a13 : A13) (a14 : A14) (a15 : A15) (k : A0 → A1 → A2 → A3 → A4 → A5 → A6 → A7 → A8 → A9 → A10 → A11 → A12 → A13 → A14 → A15 → Option β) : bn16 (some (a0, a1, a2, a3, a4, a5, a6, a7, a8, a9, a10, a11, a12, a13, a14, a15)) k = k a0 a1 a2 a3 a4 a5 a6 a7 a8 a9 a10 a11 a12 a13 a14 a15 := Eq.trans rfl rfl
theorem q_b16 {A0 A1 A2 A3 A4 A5 A6 A7 A8 A9 A10 A11 A12 A13 A14 A15 β : Type} {x : Option (A0 × A1 × A2 × A3 × A4 × A5 × A6 × A7 × A8 × A9 × A10 × A11 × A12 × A13 × A14 × A15)} {a0 : A0} {a1 : A1} {a2 : A2} {a3 : A3} {a4 : A4} {a5 : A5} {a6 : A6} {a7 : A7} {a8 : A8} {a9 : A9} {a10 : A10} {a11 : A11} {a12 : A12} {a13 : A13} {a14 : A14} {a15 : A15} {k : A0 → A1 → A2 → A3 → A4 → A5 → A6 → A7 → A8 → A9 → A10 → A11 → A12 → A13 → A14 → A15 → Option β} (h : x = some (a0, a1, a2, a3, a4, a5, a6, a7, a8, a9, a10, a11, a12, a13, a14, a15)) : bn16 x k = k a0 a1 a2 a3 a4 a5 a6 a7 a8 a9 a10 a11 a12 a13 a14 a15 := by rw [h]; rfl
theorem s_b18 {A0 A1 A2 A3 A4 A5 A6 A7 A8 A9 A10 A11 A12 A13 A14 A15 A16 A17 β : Type} (a0 : A0) (a1 : A1) (a2 : A2) (a3 : A3) (a4 : A4) (a5 : A5) (a6 : A6) (a7 : A7) (a8 : A8) (a9 : A9) (a10 : A10) (a11 : A11) (a12 : A12) (a13 : A13) (a14 : A14) (a15 : A15) (a16 : A16) (a17 : A17) (k : A0 → A1 → A2 → A3 → A4 → A5 → A6 → A7 → A8 → A9 → A10 → A11 → A12 → A13 → A14 → A15 → A16 → A17 → Option β) : bn18 (some (a0, a1, a2, a3, a4, a5, a6, a7, a8, a9, a10, a11, a12, a13, a14, a15, a16, a17)) k = k a0 a1 a2 a3 a4 a5 a6 a7 a8 a9 a10 a11 a12 a13 a14 a15 a16 a17 := Eq.trans rfl rfl
theorem q_b18 {A0 A1 A2 A3 A4 A5 A6 A7 A8 A9 A10 A11 A12 A13 A14 A15 A16 A17 β : Type} {x : Option (A0 × A1 × A2 × A3 × A4 × A5 × A6 × A7 × A8 × A9 × A10 × A11 × A12 × A13 × A14 × A15 × A16 × A17)} {a0 : A0} {a1 : A1} {a2 : A2} {a3 : A3} {a4 : A4} {a5 : A5} {a6 : A6} {a7 : A7} {a8 : A8} {a9 : A9} {a10 : A10} {a11 : A11} {a12 : A12} {a13 : A13} {a14 : A14} {a15 : A15} {a16 : A16} {a17 : A17} {k : A0 → A1 → A2 → A3 → A4 → A5 → A6 → A7 → A8 → A9 → A10 → A11 → A12 → A13 → A14 → A15 → A16 → A17 → Option β} (h : x = some (a0, a1, a2, a3, a4, a5, a6, a7, a8, a9, a10, a11, a12, a13, a14, a15, a16, a17)) : bn18 x k = k a0 a1 a2 a3 a4 a5 a6 a7 a8 a9 a10 a11 a12 a13 a14 a15 a16 a17 := by rw [h]; rfl
theorem s_x0 {β : Type} (k : Unit → Option (Sum Nat β)) : bx0 (some (.inr ())) k = k () := Eq.trans rfl rfl
theorem s_x0l {β : Type} (e : Nat) (k : Unit → Option (Sum Nat β)) : bx0 (some (.inl e)) k = some (.inl e) := Eq.trans rfl rfl
theorem s_t1 {A0 β : Type} (z : A0) (k : A0 → Option β) : bt1 (some (.inr z)) k = k z := Eq.trans rfl rfl
/-- where a number lies -/
theorem q_rng (x : Int32) (lo hi : Nat) (h : hi < 2 ^ 30) (hl : lo < 2 ^ 30) : x < nI lo ∨ (¬ x < nI lo ∧ nI hi < x) ∨ ∃ j : Nat, lo ≤ j ∧ j ≤ hi ∧ x = nI j := by
  by_cases c : x < nI lo
  · exact Or.inl c
  · by_cases d : nI hi < x
    · exact Or.inr (Or.inl ⟨c, d⟩)
    · rw [Int32.lt_iff_toInt_lt, nI_toInt (by omega)] at c d
      obtain ⟨j, hj, rfl⟩ := nI_of (x := x) (fun q => by rw [Int32.lt_iff_toInt_lt, show (0 : Int32).toInt = 0 from by decide] at q; omega)
      rw [nI_toInt hj] at c d
      exact Or.inr (Or.inr ⟨j, by omega, by omega, rfl⟩)
theorem q_rngp (x : Int32) {n : Nat} (h0 : 0 < n) (h : n < 2 ^ 30) : x < nI 0 ∨ (¬ x < nI 0 ∧ nI (n - 1) < x ∧ ¬ x < nI n ∧ nI n ≤ x) ∨ ∃ j : Nat, j < n ∧ x = nI j := by
  rcases q_rng x 0 (n - 1) (by omega) (by omega) with c | ⟨c, d⟩ | ⟨j, _, h2, e⟩
  · exact Or.inl c
  · refine Or.inr (Or.inl ⟨c, d, ?_, ?_⟩)
    · intro q
      rw [Int32.lt_iff_toInt_lt, nI_toInt (by omega)] at d q
      omega
    · rw [Int32.lt_iff_toInt_lt, nI_toInt (by omega)] at d
      rw [Int32.le_iff_toInt_le, nI_toInt (by omega)]
      omega
  · exact Or.inr (Or.inr ⟨j, by omega, e⟩)
theorem q_negf (x : Int32) {n : Nat} (h : n < 2 ^ 30) (c : x < nI 0) : x < nI n ∧ ¬ nI n ≤ x := by
  rw [Int32.lt_iff_toInt_lt, nI_toInt (by omega)] at c
  refine ⟨?_, fun q => ?_⟩
  · rw [Int32.lt_iff_toInt_lt, nI_toInt (by omega)]; omega
  · rw [Int32.le_iff_toInt_le, nI_toInt (by omega)] at q; omega
