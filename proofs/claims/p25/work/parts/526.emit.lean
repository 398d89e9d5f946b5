/-! NUMBERS: the reference's reader: what a sum writes, its leaves -/
def emD (d : Nat → Int32) (L : Nat) (v : Int32) : Nat → Int32 := upd (upd d (643 + L) v) 9 (nI (L + 1))
def emL (d : Nat → Int32) (L : Nat) : List Int32 → Nat → Int32
  | [] => d
  | v :: r => emL (emD d L v) (L + 1) r
theorem emD_9 {d : Nat → Int32} {L : Nat} {v : Int32} : emD d L v 9 = nI (L + 1) := pk_us
theorem emL_9 {d : Nat → Int32} {L : Nat} (h : d 9 = nI L) : ∀ l : List Int32, emL d L l 9 = nI (L + l.length)
  | [] => h
  | v :: r => by
    rw [emL, emL_9 emD_9 r]; congr 1; show L + 1 + r.length = L + (r.length + 1); omega
theorem emL_app {d : Nat → Int32} {L : Nat} : ∀ a b : List Int32, emL d L (a ++ b) = emL (emL d L a) (L + a.length) b
  | [], b => rfl
  | v :: r, b => by
    show emL (emD d L v) (L + 1) (r ++ b) = emL (emL (emD d L v) (L + 1) r) (L + (r.length + 1)) b
    rw [emL_app r b, show L + 1 + r.length = L + (r.length + 1) by omega]
theorem emL_o {d : Nat → Int32} {L j : Nat} (h9 : j ≠ 9) : ∀ l : List Int32, (j < 643 + L ∨ 643 + L + l.length ≤ j) → emL d L l j = d j
  | [], _ => rfl
  | v :: r, h => by
    have hl : (v :: r).length = r.length + 1 := rfl
    rw [emL, emL_o h9 r (by omega)]
    unfold emD
    rw [pk_un h9, pk_un (by omega)]
theorem emL_at {d : Nat → Int32} {L : Nat} : ∀ (l : List Int32) (j : Nat), j < l.length → emL d L l (643 + L + j) = l.getD j 0
  | [], j, h => absurd h (Nat.not_lt_zero j)
  | v :: r, j, h => by
    have hl : (v :: r).length = r.length + 1 := rfl
    rw [emL]
    cases j with
    | zero =>
      rw [Nat.add_zero, emL_o (by omega) r (Or.inl (by omega))]
      unfold emD
      rw [pk_un (by omega)]
      show upd d (643 + L) v (643 + L) = v
      exact pk_us
    | succ j =>
      rw [show 643 + L + (j + 1) = 643 + (L + 1) + j by omega, emL_at r j (by omega)]; rfl
theorem r_emitD {d : Nat → Int32} {L : Nat} (v : Int32) (h9 : d 9 = nI L) (hL : L < 1000) : X7_emit (nI 0) d v = some (emD d L v) := by
  have e : upd d (643 + L) v 9 = nI L := by rw [pk_un (by omega)]; exact h9
  unfold X7_emit emD
  simp (disch := omega) only [s_lit, s_b0, s_b1, s_b2, s_b3, s_b4, s_b5, s_b6, s_x0, s_x0l, s_t1, s_nm, s_ckT, s_ld, s_st, s_clamp, nI_add, pk_mul, s_sub, s_nad, s_div, s_mod, s_rem2, s_le_t, s_le_f, s_lt_t, s_lt_f, s_eq_t, s_eq_f, s_n1, s_n2, s_n3, s_n4, s_n5, s_n6, s_n7, s_n8, s_n9, s_n10, s_n11, s_n12, s_us, s_un, s_uLs, s_uLn, ↓reduceIte, not_false_eq_true, not_true_eq_false, true_and, and_true, and_self, or_false, false_or, or_self, true_or, or_true, false_and, and_false, Int32.neg_neg, Nat.add_zero, Nat.zero_add, Nat.reduceSub, Nat.reduceAdd, Nat.reduceMul, Nat.reduceLeDiff, X7_isGood, h9, e]
section XR
variable {E : Nat} {bytes buffer : Nat → Int32} {tx : Nat → Nat}
/-- no letter and no digit goes on at p -/
def Stop (E : Nat) (tx : Nat → Nat) (p : Nat) : Prop := chB E tx dgB p = false ∧ chB E tx ltB p = false
theorem r_facNum (T : Txt E bytes buffer tx) (rs : Int32 → Int32 → Int32 → Int32 → Int32 → Int32 → (Nat → Int32) → (Nat → Int32) → Option (Int32 × Int32 × Int32 × Int32 × Int32 × (Nat → Int32))) {p q v L : Nat} (ea ns nest : Int32) {d : Nat → Int32} (hp : p ≤ E) (hs : sk E tx p = q) (hv : v ≤ 9999) (hm : AtT E tx q (dcs v)) (he : Stop E tx (q + (dcs v).length)) (h9 : d 9 = nI L) (hL : L < 900) :
    ∃ n2, X7_factor rs (nI E) (nI p) (nI 0) ea ns nest buffer d = some (nI (q + (dcs v).length), nI 0, ea, n2, nest, emL d L [nI 0, nI v]) := by
  have ha := t_ahead T hp
  have hl := dcs_pos v
  have hq := hm.1
  have g2 := (r_dcsL T ea (lo := 0) (hi := 9999) (Nat.zero_le _) hv (by decide) hm he.1 0).2
  have hc := (t_ch T q).2.1
  have hsq : sk E tx q = q := by rw [← hs]; exact sk_sk E tx p
  have en : X7_number (nI E) (nI q) (nI 0) ea ns buffer (0 : Int32) (9999 : Int32) = _ := r_dcs T (lo := 0) (hi := 9999) ns ea (show q ≤ E by omega) hsq (Nat.zero_le _) hv (by decide) hm he.1
  rw [chB_in (show q < E by omega), show dgB (tx q) = true from decide_eq_true g2] at hc
  rw [hs] at ha
  have hne : ¬ chA E tx q = (40 : Int32) := by
    rw [chA_in (by omega)]
    exact fun z => by have := (nI_eq (b := 40) (by omega) (by decide)).mp z; omega
  refine ⟨nI q, ?_⟩
  unfold X7_factor X7_factor_J142 X7_factor_J159 X7_factor_J170
  rw [show X7_isGood (nI 0) = some 1 from rfl, q_bn1, if_neg (show ¬ (1 : Int32) = 0 by decide), q_b2 ha, if_neg hne, q_b1 hc, if_neg (show ¬ b01 true = 0 by decide), if_neg (show ¬ (0 : Int32) ≤ -1 by decide), q_b5 en, if_neg (show ¬ (0 : Int32) ≤ -1 by decide), q_b1 (r_emitD (0 : Int32) h9 (by omega)), q_b1 (r_emitD (nI v) emD_9 (by omega))]
  rfl
end XR
