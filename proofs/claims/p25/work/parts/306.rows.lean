/-! PHASE 2: whole rows: copied, filled -/
/-- f up to n, g behind -/
def cpN (f g : Nat → Int32) (n : Nat) : Nat → Int32 := fun j => if j < n then f j else g j
theorem cpN_step (f g : Nat → Int32) (n : Nat) : upd (cpN f g n) n (f n) = cpN f g (n + 1) := by
  funext j
  by_cases e : j = n
  · subst e
    rw [pk_us]
    exact (if_pos (Nat.lt_succ_self _)).symm
  · rw [pk_un e]
    unfold cpN
    by_cases c : j < n
    · rw [if_pos c, if_pos (by omega)]
    · rw [if_neg c, if_neg (by omega)]
theorem r_copyL {n0 n1 M : Nat} {f g : Nat → Int32} {m : Int32} (hm : m = nI M) (h0 : M ≤ n0) (h1 : M ≤ n1) (l0 : n0 < 2 ^ 31) (l1 : n1 < 2 ^ 31) : ∀ fuel k : Nat, M - k < fuel → k ≤ M → X7_copy_L2 n0 n1 f m fuel (nI k) (cpN f g k) = some (cpN f g M)
  | 0, k, h, _ => absurd h (Nat.not_lt_zero _)
  | fuel + 1, k, h, hk => by
    rw [X7_copy_L2]
    by_cases e : k = M
    · subst e
      exact if_pos (by rw [hm]; exact nI_le (Nat.le_refl _) (by omega))
    · refine (if_neg (by rw [hm]; exact nI_ge (show k < M by omega) (by omega))).trans ?_
      refine (q_ld f k _ rfl (by omega) l0).trans ?_
      refine (q_st _ k _ rfl (by omega) l1).trans ?_
      show X7_copy_L2 n0 n1 f m fuel (nI k + 1) (upd (cpN f g k) (nI k).toNatClampNeg (f k)) = _
      rw [nI_clamp (by omega), cpN_step, nI_1]
      exact r_copyL hm h0 h1 l0 l1 fuel (k + 1) (by omega) (by omega)
theorem r_copy {n0 n1 M : Nat} {f g : Nat → Int32} {m : Int32} (hm : m = nI M) (h0 : M ≤ n0) (h1 : M ≤ n1) (l0 : n0 < 2 ^ 31) (l1 : n1 < 2 ^ 31) (hF : M < 1000000) : X7_copy n0 n1 f g m = some (cpN f g M) := by
  have h := r_copyL (f := f) (g := g) hm h0 h1 l0 l1 FU 0 (by unfold FU; omega) (Nat.zero_le _)
  rw [show cpN f g 0 = g from funext (fun j => if_neg (Nat.not_lt_zero _))] at h
  unfold X7_copy
  exact h
theorem q_fillL {n0 : Nat} {v : Int32} {g : Nat → Int32} (l0 : n0 < 2 ^ 31) : ∀ fuel k : Nat, n0 - k < fuel → k ≤ n0 → J7_fill_53178_L5 n0 v fuel (nI k) (nI n0) (cpN (fun _ => v) g k) = some (cpN (fun _ => v) g n0)
  | 0, k, h, _ => absurd h (Nat.not_lt_zero _)
  | fuel + 1, k, h, hk => by
    rw [J7_fill_53178_L5]
    by_cases e : k = n0
    · subst e
      exact if_pos (nI_le (Nat.le_refl _) l0)
    · refine (if_neg (nI_ge (show k < n0 by omega) l0)).trans ?_
      refine (q_st _ k _ rfl (by omega) l0).trans ?_
      show J7_fill_53178_L5 n0 v fuel (nI k + 1) (nI n0) (upd (cpN (fun _ => v) g k) (nI k).toNatClampNeg v) = _
      rw [nI_clamp (by omega), show upd (cpN (fun _ => v) g k) k v = cpN (fun _ => v) g (k + 1) from cpN_step (fun _ => v) g k, nI_1]
      exact q_fillL l0 fuel (k + 1) (by omega) (by omega)
theorem q_fill {n0 : Nat} {v : Int32} {g : Nat → Int32} (hF : n0 < 1000000) : J7_fill_53178 n0 g v = some (cpN (fun _ => v) g n0) := by
  have h := q_fillL (v := v) (g := g) (n0 := n0) (by omega) FU 0 (by unfold FU; omega) (Nat.zero_le _)
  rw [show cpN (fun _ => v) g 0 = g from funext (fun j => if_neg (Nat.not_lt_zero _))] at h
  unfold J7_fill_53178
  exact h
