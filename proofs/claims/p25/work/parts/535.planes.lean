/-! NUMBERS: the reference's reader: the planes that a text of randomShow tells -/
theorem chC_kcC {c : Nat} (h : lnB c = true) : chC (kcC c) = nI c := by
  rcases lnB_t h with e | ⟨a, b⟩
  · rw [e]; decide
  · rw [show kcC c = nI (c - 97) from if_neg (by omega), chC_kind (by omega)]
    congr 1; omega
theorem rsC_let (op : Bool) (s : Int32) : ((rsC op s).1 = nI 46 ∧ op = true) ∨ ∃ k, k < 4 ∧ (rsC op s).1 = nI (97 + k) := by
  unfold rsC
  by_cases c1 : op = true ∧ rnV s % 2 = 0
  · rw [if_pos c1]; exact Or.inl ⟨rfl, c1.1⟩
  · rw [if_neg c1]
    by_cases c2 : op = true
    · rw [if_pos c2]; exact Or.inr ⟨rnV (rnS s) % 4, Nat.mod_lt _ (by decide), rfl⟩
    · rw [if_neg c2]; exact Or.inr ⟨rnV s % 4, Nat.mod_lt _ (by decide), rfl⟩
theorem rsL_let (op : Bool) : ∀ (x : Nat) (s : Int32) (j : Nat), j < x → ((rsL op x s).1.getD j 0 = nI 46 ∧ op = true) ∨ ∃ k, k < 4 ∧ (rsL op x s).1.getD j 0 = nI (97 + k)
  | 0, s, j, h => absurd h (Nat.not_lt_zero j)
  | x + 1, s, j, h => by
    show (((rsL op x s).1 ++ [(rsC op (rsL op x s).2).1]).getD j 0 = nI 46 ∧ op = true) ∨ ∃ k, k < 4 ∧ ((rsL op x s).1 ++ [(rsC op (rsL op x s).2).1]).getD j 0 = nI (97 + k)
    have hl := rsL_len op x s
    by_cases e : j < x
    · rw [gD_l (by omega)]; exact rsL_let op x s j e
    · rw [gD_r (by omega), hl, show j - x = 0 by omega]
      exact rsC_let op _
section XR
variable {E : Nat} {bytes buffer : Nat → Int32} {tx : Nat → Nat}
theorem AtT.to {p q : Nat} {s : List Int32} (h : AtT E tx p s) (e : p = q) : AtT E tx q s := e ▸ h
theorem rwT_at {n w hh : Nat} {s : Int32} {pl p : Nat} : ∀ y, AtT E tx p (rwT n w hh s pl y) → ∀ k, k < y → AtT E tx (p + (w + 1) * k) [32] ∧ AtT E tx (p + (w + 1) * k + 1) (rsT n w hh s pl k)
  | 0, _, k, h => absurd h (Nat.not_lt_zero k)
  | y + 1, m, k, h => by
    have m : AtT E tx p (rwT n w hh s pl y ++ [32] ++ rsT n w hh s pl y) := m
    obtain ⟨m1, m2⟩ := m.app
    obtain ⟨m3, m4⟩ := m1.app
    rw [rwT_len] at m4
    rw [List.length_append, rwT_len] at m2
    by_cases e : k < y
    · exact rwT_at y m3 k e
    · obtain rfl : k = y := by omega
      exact ⟨m4, m2⟩
theorem rd_planes (T : Txt E bytes buffer tx) {n w hh q0 : Nat} {s : Int32} (hw : 1 ≤ w ∧ w ≤ 12) (hh8 : 1 ≤ hh ∧ hh ≤ 8) (hn : 1 ≤ n ∧ n ≤ 5) (seen : Int32) {d : Nat → Int32} (d0 : d 0 = nI w) (d1 : d 1 = nI hh) (d2 : d 2 = nI n) : ∀ D, D ≤ n → AtT E tx q0 (plT n w hh s D) → ∃ d', Rd E buffer D q0 seen (nI 0) d (q0 + (plT n w hh s D).length) seen (nI D) d' ∧ (∀ j, j < 15 ∨ 15 + 96 * D ≤ j → d' j = d j) ∧ ∀ p, p < D → ∀ y, y < hh → ∀ x, x < w → (rsT n w hh s p y).getD x 0 = chC (d' (15 + 96 * p + w * y + x))
  | 0, _, _ => ⟨d, Rd.zero, fun _ _ => rfl, fun p hp => absurd hp (Nat.not_lt_zero p)⟩
  | D + 1, hD, m => by
    have hE := T.1
    have m : AtT E tx q0 (plT n w hh s D ++ [112, 108, 97, 110, 101] ++ rwT n w hh s D hh ++ [59]) := m
    obtain ⟨m1, m9⟩ := m.app
    obtain ⟨m2, mr⟩ := m1.app
    obtain ⟨m3, mw⟩ := m2.app
    have hlen : (plT n w hh s (D + 1)).length = (plT n w hh s D).length + 5 + (w + 1) * hh + 1 := by
      show (plT n w hh s D ++ [112, 108, 97, 110, 101] ++ rwT n w hh s D hh ++ [59]).length = _
      rw [List.length_append, List.length_append, List.length_append, rwT_len]; rfl
    rw [List.length_append, List.length_append, rwT_len] at m9
    rw [List.length_append] at mr
    obtain ⟨q, eq⟩ : ∃ z, z = q0 + (plT n w hh s D).length := ⟨_, rfl⟩
    rw [← eq] at mw
    have mr : AtT E tx (q + 5) (rwT n w hh s D hh) := mr.to (by rw [eq]; show _ + (_ + 5) = _; omega)
    have m9 : AtT E tx (q + 5 + (w + 1) * hh) [59] := m9.to (by rw [eq]; show _ + (_ + 5 + _) = _; omega)
    obtain ⟨d1', r1, o1, c1⟩ := rd_planes T hw hh8 hn seen d0 d1 d2 D (by omega) m3
    rw [← eq] at r1
    have hrow := rwT_at hh mr
    have hq9 := m9.1
    have hq9 : q + 5 + (w + 1) * hh + 1 ≤ E := hq9
    have h59 : tx (q + 5 + (w + 1) * hh) = 59 := m9.at T (j := 0) (Nat.succ_pos _) rfl (by decide)
    have hsp : ∀ y, y < hh → tx (q + 5 + (w + 1) * y) = 32 := fun y hy => (hrow y hy).1.at T (j := 0) (Nat.succ_pos _) rfl (by decide)
    have hlet : ∀ y, y < hh → ∀ k, k < w → (tx (q + 5 + (w + 1) * y + 1 + k) = 46 ∧ rsO n D = true) ∨ ∃ i, i < 4 ∧ tx (q + 5 + (w + 1) * y + 1 + k) = 97 + i := fun y hy k hk => by
      have hl : (rsT n w hh s D y).length = w := rsL_len ..
      rcases rsL_let (rsO n D) w (rsR (rsO n D) w y (rsP n w hh D s)) k hk with ⟨a, b⟩ | ⟨i, hi, a⟩
      · exact Or.inl ⟨(hrow y hy).2.at T (by rw [hl]; exact hk) a (by decide), b⟩
      · exact Or.inr ⟨i, hi, (hrow y hy).2.at T (by rw [hl]; exact hk) a (by omega)⟩
    have hln : ∀ y, y < hh → ∀ k, k < w → lnB (tx (q + 5 + (w + 1) * y + 1 + k)) = true := fun y hy k hk => by
      rcases hlet y hy k hk with ⟨a, -⟩ | ⟨i, hi, a⟩
      · rw [a]; decide
      · rw [a]
        rcases (show i = 0 ∨ i = 1 ∨ i = 2 ∨ i = 3 by omega) with e | e | e | e <;> subst e <;> decide
    have h46 : ∀ y, y < hh → ∀ k, k < w → tx (q + 5 + (w + 1) * y + 1 + k) = 46 → D ≠ n - 1 := fun y hy k hk z => by
      rcases hlet y hy k hk with ⟨-, b⟩ | ⟨i, hi, a⟩
      · have := of_decide_eq_true b
        omega
      · omega
    have t0 : tx q = 112 := mw.at T (j := 0) (by decide) rfl (by decide)
    have st := Rd.step T (p := q) (s := seen) (t := nI D) (d := d1') (by omega) (by omega) (fun ea ns => ⟨ns, r_stPlane T ea ns (nI 0) seen hw.1 hw.2 hh8.1 hh8.2 hn.1 hn.2 (show D < n by omega) mw (by omega) h59 hsp hln h46 ((o1 0 (Or.inl (by decide))).trans d0) ((o1 1 (Or.inl (by decide))).trans d1) ((o1 2 (Or.inl (by decide))).trans d2)⟩)
    have hwh : w * hh ≤ 12 * 8 := Nat.mul_le_mul hw.2 hh8.2
    refine ⟨plD d1' w D (q + 5) tx hh, ?_, fun j hj => ?_, fun p hp y hy x hx => ?_⟩
    · rw [hlen, show q0 + ((plT n w hh s D).length + 5 + (w + 1) * hh + 1) = q + 5 + (w + 1) * hh + 1 by rw [eq]; omega]
      exact r1.trans st
    · rcases hj with hj | hj
      · rw [plD_lo (by omega)]; exact o1 j (Or.inl hj)
      · rw [plD_hi hh (by omega)]; exact o1 j (Or.inr (by omega))
    · by_cases e : p = D
      · have hl : (rsT n w hh s D y).length = w := rsL_len ..
        rw [e, plD_at hx hh hy, chC_kcC (hln y hy x hx)]
        exact ((hrow y hy).2.2 x (by rw [hl]; exact hx)).symm
      · have h1 : w * (y + 1) ≤ w * hh := Nat.mul_le_mul_left w hy
        have e1 : w * (y + 1) = w * y + w := Nat.mul_succ w y
        rw [plD_lo (by omega)]
        exact c1 p (by omega) y hy x hx
end XR
