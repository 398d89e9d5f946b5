/-! NUMBERS: the reference's reader: the law's tree as it writes it -/
section XR
variable {E : Nat} {bytes buffer : Nat → Int32} {tx : Nat → Nat}
theorem NoSp.app {a b : List Int32} (h : NoSp a) : NoSp (a ++ b) := by
  obtain ⟨m, h1, h2, h3, h4⟩ := h
  exact ⟨m, h1, h2, by rw [List.length_append]; omega, by rw [gD_l h3]; exact h4⟩
theorem noSp_dcs (v : Nat) (hv : v < 10000) : NoSp (dcs v) := by
  unfold dcs
  split
  · exact ⟨48 + v, by omega, by omega, Nat.succ_pos _, rfl⟩
  · split
    · exact ⟨48 + v / 10, by omega, by omega, Nat.succ_pos _, rfl⟩
    · split
      · exact ⟨48 + v / 100, by omega, by omega, Nat.succ_pos _, rfl⟩
      · exact ⟨48 + v / 1000, by omega, by omega, Nat.succ_pos _, rfl⟩
theorem noSp_vTx (v : Nat) : NoSp (vTx v) := by
  unfold vTx
  split
  · exact ⟨115, by decide, by decide, by decide, rfl⟩
  · exact ⟨107, by decide, by decide, by decide, rfl⟩
  · exact ⟨100, by decide, by decide, by decide, rfl⟩
  · exact ⟨104, by decide, by decide, by decide, rfl⟩
theorem noSp_ndT {K V : Nat → Nat} (hG : ∀ i, K i < 6 ∧ V i < 10000 ∧ (K i ≠ 0 → V i < 4)) : ∀ d i lv, wfT K d i → NoSp (ndT K V d i lv)
  | 0, _, _, w => w.elim
  | d + 1, i, lv, w => by
    rw [ndT]
    split
    · exact noSp_dcs _ (hG i).2.1
    · split
      · exact noSp_vTx _
      · have w := w.resolve_left (by omega)
        split
        · exact NoSp.app (NoSp.app ⟨40, by decide, by decide, by decide, rfl⟩)
        · exact NoSp.app (NoSp.app (noSp_ndT hG d _ _ w.1))
theorem tree_all (T : Txt E bytes buffer tx) {K V : Nat → Nat} {N : Nat → Int32} {ea : Int32} (hG : ∀ i, K i < 6 ∧ V i < 10000 ∧ (K i ≠ 0 → V i < 4)) (hN : ∀ i, N i = nI (V i)) : ∀ d i, wfT K d i → ∀ m k, d ≤ m + 1 → k + d ≤ 5 →
    FacP E buffer tx ea (nI k) (X7_factor (X7_readSum m)) (ndT K V d i 3) (pfx K N d i) ∧ (∃ c, c ≤ d ∧ TerP E buffer tx ea (nI k) (X7_factor (X7_readSum m)) (ndT K V d i 2) (pfx K N d i) c) ∧ ∀ lv, lv ≤ 1 → ∃ c, c ≤ d ∧ SumP E buffer tx ea (nI k) (X7_term (X7_factor (X7_readSum m))) (ndT K V d i lv) (pfx K N d i) c
  | 0, _, w => w.elim
  | d + 1, i, w => by
    intro m k hm hk
    obtain ⟨g6, g1, g4⟩ := hG i
    have hd9 : d ≤ 5 := by omega
    by_cases c : K i < 2
    · have leaf : ∀ lv, FacP E buffer tx ea (nI k) (X7_factor (X7_readSum m)) (ndT K V (d + 1) i lv) (pfx K N (d + 1) i) := by
        intro lv p q L ns dd hp hs hmm he h9 hL
        rw [ndT] at hmm he ⊢
        rw [pfx, if_pos c, hN] at hL ⊢
        have hL : L + 2 ≤ 800 := hL
        by_cases c0 : K i = 0
        · rw [if_pos c0] at hmm he ⊢
          rw [c0]
          exact r_facNum T _ ea ns _ hp hs (by omega) hmm he h9 (by omega)
        · have c1 : K i = 1 := by omega
          rw [if_neg c0, if_pos c1] at hmm he ⊢
          rw [c1]
          exact r_facVar T _ ea ns _ hp hs (g4 c0) hmm he h9 (by omega)
      exact ⟨leaf 3, ⟨0, by omega, TerP.leaf (leaf 2)⟩, fun lv _ => ⟨0, by omega, SumP.leaf (TerP.sp T (TerP.leaf (leaf lv)) (by decide))⟩⟩
    · have w := w.resolve_left c
      have c0 : ¬ K i = 0 := by omega
      have c1 : ¬ K i = 1 := by omega
      have hdp : 0 < d := by
        cases d with
        | zero => exact (w.1).elim
        | succ d => exact Nat.succ_pos _
      have tx0 : ∀ lv, ndT K V (d + 1) i lv = if X8_own (K i) < lv then [40] ++ (ndT K V d (2 * i) (X8_own (K i)) ++ X8_op2 (K i) ++ ndT K V d (2 * i + 1) (X8_own (K i) + 1)) ++ [41] else ndT K V d (2 * i) (X8_own (K i)) ++ X8_op2 (K i) ++ ndT K V d (2 * i + 1) (X8_own (K i) + 1) := fun lv => by rw [ndT, if_neg c0, if_neg c1]
      have pf0 : pfx K N (d + 1) i = pfx K N d (2 * i) ++ pfx K N d (2 * i + 1) ++ [nI (K i)] := by rw [pfx, if_neg c]
      rw [pf0]
      obtain ⟨s, es⟩ : ∃ z, z = ndT K V d (2 * i) (X8_own (K i)) ++ X8_op2 (K i) ++ ndT K V d (2 * i + 1) (X8_own (K i) + 1) := ⟨_, rfl⟩
      have ns : NoSp s := by rw [es]; exact NoSp.app (NoSp.app (noSp_ndT hG d _ _ w.1))
      have nb := fun lv => noSp_ndT hG d (2 * i + 1) lv w.2
      -- the node's own text, not in parentheses
      have body : ∀ m k, d ≤ m + 1 → k + d ≤ 5 → (X8_own (K i) = 1 → ∃ c, c ≤ d + 1 ∧ SumP E buffer tx ea (nI k) (X7_term (X7_factor (X7_readSum m))) s (pfx K N d (2 * i) ++ pfx K N d (2 * i + 1) ++ [nI (K i)]) c) ∧ (X8_own (K i) = 2 → ∃ c, c ≤ d + 1 ∧ TerP E buffer tx ea (nI k) (X7_factor (X7_readSum m)) s (pfx K N d (2 * i) ++ pfx K N d (2 * i + 1) ++ [nI (K i)]) c) := by
        intro m k hm hk
        obtain ⟨aF, ⟨ac, ac1, aT⟩, aS⟩ := tree_all T (ea := ea) hG hN d (2 * i) w.1 m k hm hk
        obtain ⟨bF, ⟨bc, bc1, bT⟩, bS⟩ := tree_all T (ea := ea) hG hN d (2 * i + 1) w.2 m k hm hk
        obtain ⟨sc, sc1, aS⟩ := aS 1 (by decide)
        have bSp := bT.sp T (by omega)
        rw [es]
        rcases (show K i = 2 ∨ K i = 3 ∨ K i = 4 ∨ K i = 5 by omega) with e | e | e | e <;> rw [e]
        · exact ⟨fun _ => ⟨sc + 1, by omega, aS.add T bSp (nb 2) (by omega)⟩, fun h => absurd h (by decide)⟩
        · exact ⟨fun _ => ⟨sc + 1, by omega, aS.sub T bSp (nb 2) (by omega)⟩, fun h => absurd h (by decide)⟩
        · exact ⟨fun h => absurd h (by decide), fun _ => ⟨ac + 1, by omega, aT.mul T bF (nb 3) (by omega)⟩⟩
        · exact ⟨fun h => absurd h (by decide), fun _ => ⟨ac + 1, by omega, aT.div T bF (nb 3) (by omega)⟩⟩
      have own : X8_own (K i) = 1 ∨ X8_own (K i) = 2 := by unfold X8_own; split; exact Or.inl rfl; exact Or.inr rfl
      have asSum : ∀ m k, d ≤ m + 1 → k + d ≤ 5 → ∃ c, c ≤ d + 1 ∧ SumP E buffer tx ea (nI k) (X7_term (X7_factor (X7_readSum m))) s (pfx K N d (2 * i) ++ pfx K N d (2 * i + 1) ++ [nI (K i)]) c := by
        intro m k hm hk
        obtain ⟨b1, b2⟩ := body m k hm hk
        rcases own with o | o
        · exact b1 o
        · obtain ⟨c, h1, h2⟩ := b2 o
          exact ⟨0, by omega, SumP.leaf (h2.sp T (by omega))⟩
      have par : FacP E buffer tx ea (nI k) (X7_factor (X7_readSum m)) ([40] ++ s ++ [41]) (pfx K N d (2 * i) ++ pfx K N d (2 * i + 1) ++ [nI (K i)]) := by
        obtain ⟨m2, rfl⟩ : ∃ z, m = z + 1 := ⟨m - 1, by omega⟩
        obtain ⟨c, h1, h2⟩ := asSum m2 (k + 1) (by omega) (by omega)
        exact FacP.par T (by omega) h2 ns (by omega)
      refine ⟨?_, ?_, fun lv hlv => ?_⟩
      · rw [tx0, if_pos (by omega), ← es]; exact par
      · rw [tx0, ← es]
        rcases own with o | o
        · rw [if_pos (by omega)]; exact ⟨0, by omega, TerP.leaf par⟩
        · rw [if_neg (by omega)]
          exact (body m k (by omega) (by omega)).2 o
      · rw [tx0, if_neg (by omega), ← es]
        exact asSum m k (by omega) (by omega)
end XR
