/-! NUMBERS: the reference's reader: sums, parentheses -/
section XR
variable {E : Nat} {bytes buffer : Nat → Int32} {tx : Nat → Nat}
theorem NoMul.of (T : Txt E bytes buffer tx) {p q c : Nat} (hs : sk E tx p = q) (hq : q < E) (hc : tx q = c) (h1 : c ≠ 42) (h2 : c ≠ 47) : NoMul E tx p := by
  have hlt := (T.2 q hq).1
  unfold NoMul
  rw [hs, chA_in hq, hc]
  exact ⟨fun z => h1 ((nI_eq (b := 42) (by omega) (by decide)).mp z), fun z => h2 ((nI_eq (b := 47) (by omega) (by decide)).mp z)⟩
theorem NoAdd.of (T : Txt E bytes buffer tx) {p q c : Nat} (hs : sk E tx p = q) (hq : q < E) (hc : tx q = c) (h1 : c ≠ 43) (h2 : c ≠ 45) : NoAdd E tx p := by
  have hlt := (T.2 q hq).1
  unfold NoAdd
  rw [hs, chA_in hq, hc]
  exact ⟨fun z => h1 ((nI_eq (b := 43) (by omega) (by decide)).mp z), fun z => h2 ((nI_eq (b := 45) (by omega) (by decide)).mp z)⟩
theorem SumP.add (T : Txt E bytes buffer tx) {ea nest : Int32} {f : Pr} {a b pa pb : List Int32} {c : Nat} (ha : SumP E buffer tx ea nest f a pa c) (hb : SpP E buffer tx ea nest f b pb) (nb : NoSp b) (hc : c < 1000) : SumP E buffer tx ea nest f (a ++ [43] ++ b) (pa ++ pb ++ [nI 2]) (c + 1) := by
  intro p q L ns d hp hs hm he hn h9 hL
  have hE := T.1
  obtain ⟨m12, m3⟩ := hm.app
  obtain ⟨m1, m2⟩ := m12.app
  rw [List.length_append] at m3
  have m3 : AtT E tx (q + (a.length + 1)) b := m3
  have l2 := m2.1
  have l2 : q + a.length + 1 ≤ E := l2
  have l3 := m3.1
  have t0 : tx (q + a.length) = 43 := m2.at T (j := 0) (by decide) rfl (by decide)
  have hlen : (a ++ [43] ++ b).length = a.length + 1 + b.length := by rw [List.length_append, List.length_append]; rfl
  have plen : (pa ++ pb ++ [nI 2]).length = pa.length + pb.length + 1 := by rw [List.length_append, List.length_append]; rfl
  rw [plen] at hL
  rw [hlen] at he hn ⊢
  have s0 : sk E tx (q + a.length) = q + a.length := sk_at (by omega)
  obtain ⟨n2, p2, h2, h3, e1⟩ := ha p q L ns d hp hs m1 (Stop.of T (by omega) t0 (by decide) (by decide)) (NoMul.of T s0 (by omega) t0 (by decide) (by decide)) h9 (by omega)
  have g9 := emL_9 h9 pa
  have n3 := nb.at T m3
  have ej : q + a.length + 1 = q + (a.length + 1) := by omega
  have ek : q + a.length + 1 + b.length = q + (a.length + 1 + b.length) := by omega
  obtain ⟨n4, e2⟩ := hb (q + a.length + 1) (q + a.length + 1) (L + pa.length) n2 (emL d L pa) (by omega) (sk_at (by rw [ej]; exact n3)) (by rw [ej]; exact m3) (by rw [ek]; exact he) (by rw [ek]; exact hn) g9 (by omega)
  have g92 := emL_9 g9 pb
  have hA := t_ahead T h2
  rw [h3, s0, chA_in (by omega), t0] at hA
  have hA2 := t_ahead T (p := q + a.length) (by omega)
  rw [s0, chA_in (by omega), t0] at hA2
  refine ⟨n4, sk E tx (q + a.length + 1 + b.length), sk_le (by omega), by rw [sk_sk, ek], ?_⟩
  rw [e1, show FU - c = FU - (c + 1) + 1 by unfold FU; omega, X7_readSum_L4, show X7_isGood (nI 0) = some 1 from rfl, q_bn1, if_neg (show ¬ (1 : Int32) = 0 by decide), q_b2 hA, if_pos (show nI 43 = (43 : Int32) from rfl)]
  unfold X7_readSum_J29 X7_readSum_J43 X7_readSum_J68
  rw [q_b2 hA2, if_pos (show nI 43 = (43 : Int32) from rfl), s_nm, nI_1, q_b6 e2, if_neg (show ¬ (1 : Int32) = 0 by decide), q_b1 (r_emitD (2 : Int32) g92 (by omega))]
  have ee : emL d L (pa ++ pb ++ [nI 2]) = emD (emL (emL d L pa) (L + pa.length) pb) (L + pa.length + pb.length) 2 := by
    rw [emL_app, emL_app, List.length_append, ← Nat.add_assoc]; rfl
  rw [ee]
theorem SumP.sub (T : Txt E bytes buffer tx) {ea nest : Int32} {f : Pr} {a b pa pb : List Int32} {c : Nat} (ha : SumP E buffer tx ea nest f a pa c) (hb : SpP E buffer tx ea nest f b pb) (nb : NoSp b) (hc : c < 1000) : SumP E buffer tx ea nest f (a ++ [32, 45, 32] ++ b) (pa ++ pb ++ [nI 3]) (c + 1) := by
  intro p q L ns d hp hs hm he hn h9 hL
  have hE := T.1
  obtain ⟨m12, m3⟩ := hm.app
  obtain ⟨m1, m2⟩ := m12.app
  rw [List.length_append] at m3
  have m3 : AtT E tx (q + (a.length + 3)) b := m3
  have l2 := m2.1
  have l2 : q + a.length + 3 ≤ E := l2
  have l3 := m3.1
  have t0 : tx (q + a.length) = 32 := m2.at T (j := 0) (by decide) rfl (by decide)
  have t1 : tx (q + a.length + 1) = 45 := m2.at T (j := 1) (by decide) rfl (by decide)
  have t2 : tx (q + a.length + 2) = 32 := m2.at T (j := 2) (by decide) rfl (by decide)
  have hlen : (a ++ [32, 45, 32] ++ b).length = a.length + 3 + b.length := by rw [List.length_append, List.length_append]; rfl
  have plen : (pa ++ pb ++ [nI 3]).length = pa.length + pb.length + 1 := by rw [List.length_append, List.length_append]; rfl
  rw [plen] at hL
  rw [hlen] at he hn ⊢
  have s0 : sk E tx (q + a.length) = q + a.length + 1 := sk_one (by omega) t0 (by omega)
  have s1 : sk E tx (q + a.length + 1) = q + a.length + 1 := sk_at (by omega)
  obtain ⟨n2, p2, h2, h3, e1⟩ := ha p q L ns d hp hs m1 (Stop.of T (by omega) t0 (by decide) (by decide)) (NoMul.of T s0 (by omega) t1 (by decide) (by decide)) h9 (by omega)
  have g9 := emL_9 h9 pa
  have n3 := nb.at T m3
  have ej : q + a.length + 2 + 1 = q + (a.length + 3) := by omega
  have ek : q + (a.length + 3) + b.length = q + (a.length + 3 + b.length) := by omega
  obtain ⟨n4, e2⟩ := hb (q + a.length + 2) (q + (a.length + 3)) (L + pa.length) n2 (emL d L pa) (by omega) (by rw [← ej]; exact sk_one (by omega) t2 (by rw [ej]; exact n3)) m3 (by rw [ek]; exact he) (by rw [ek]; exact hn) g9 (by omega)
  have g92 := emL_9 g9 pb
  have hA := t_ahead T h2
  rw [h3, s0, chA_in (by omega), t1] at hA
  have hA2 := t_ahead T (p := q + a.length + 1) (by omega)
  rw [s1, chA_in (by omega), t1] at hA2
  refine ⟨n4, sk E tx (q + (a.length + 3) + b.length), sk_le (by omega), by rw [sk_sk, ek], ?_⟩
  rw [e1, show FU - c = FU - (c + 1) + 1 by unfold FU; omega, X7_readSum_L4, show X7_isGood (nI 0) = some 1 from rfl, q_bn1, if_neg (show ¬ (1 : Int32) = 0 by decide), q_b2 hA, if_neg (show ¬ nI 45 = (43 : Int32) by decide), q_b2 hA2, if_pos (show nI 45 = (45 : Int32) from rfl)]
  unfold X7_readSum_J29 X7_readSum_J43 X7_readSum_J68
  rw [q_b2 hA2, if_neg (show ¬ nI 45 = (43 : Int32) by decide), s_nm, nI_1, q_b6 e2, if_pos (show (0 : Int32) = 0 from rfl), q_b1 (r_emitD (3 : Int32) g92 (by omega))]
  have ee : emL d L (pa ++ pb ++ [nI 3]) = emD (emL (emL d L pa) (L + pa.length) pb) (L + pa.length + pb.length) 3 := by
    rw [emL_app, emL_app, List.length_append, ← Nat.add_assoc]; rfl
  rw [ee]
/-- a sum in parentheses is a factor -/
theorem FacP.par (T : Txt E bytes buffer tx) {ea : Int32} {k m : Nat} {s pf : List Int32} {c : Nat} (hk : k < 4) (h : SumP E buffer tx ea (nI (k + 1)) (X7_term (X7_factor (X7_readSum m))) s pf c) (ns : NoSp s) (hc : c < 1000) : FacP E buffer tx ea (nI k) (X7_factor (X7_readSum (m + 1))) ([40] ++ s ++ [41]) pf := by
  intro p q L n0 d hp hs hm he h9 hL
  have hE := T.1
  obtain ⟨m12, m3⟩ := hm.app
  obtain ⟨m1, m2⟩ := m12.app
  have m2 : AtT E tx (q + 1) s := m2
  have l1 := m1.1
  have l1 : q + 1 ≤ E := l1
  rw [List.length_append] at m3
  have m3 : AtT E tx (q + (1 + s.length)) [41] := m3
  have l3 := m3.1
  have l3 : q + (1 + s.length) + 1 ≤ E := l3
  have t0 : tx q = 40 := m1.at T (j := 0) (by decide) rfl (by decide)
  have t9 : tx (q + (1 + s.length)) = 41 := m3.at T (j := 0) (by decide) rfl (by decide)
  have n1 := ns.at T m2
  have ee : q + 1 + s.length = q + (1 + s.length) := by omega
  have s9 : sk E tx (q + 1 + s.length) = q + (1 + s.length) := by rw [ee]; exact sk_at (by omega)
  obtain ⟨n2, e1⟩ := h.end_ T hc (p := q + 1) (q := q + 1) (L := L) (ns := n0) (d := d) (by omega) (sk_at n1) m2 (by rw [ee]; exact Stop.of T (by omega) t9 (by decide) (by decide)) (NoMul.of T s9 (by omega) t9 (by decide) (by decide)) (NoAdd.of T s9 (by omega) t9 (by decide) (by decide)) h9 hL
  rw [s9] at e1
  have hA := t_ahead T hp
  rw [hs, chA_in (by omega), t0] at hA
  have ex := r_expect T ea (p := q + (1 + s.length)) (by omega) (sk_at (by omega)) (by omega) t9
  refine ⟨n2, ?_⟩
  have hlen : ([40] ++ s ++ [41] : List Int32).length = 1 + s.length + 1 := by rw [List.length_append, List.length_append]; rfl
  rw [hlen]
  unfold X7_factor
  rw [show X7_isGood (nI 0) = some 1 from rfl, q_bn1, if_neg (show ¬ (1 : Int32) = 0 by decide), q_b2 hA, if_pos (show nI 40 = (40 : Int32) from rfl), if_neg (show ¬ nI k = (4 : Int32) from fun z => by have := (nI_eq (b := 4) (by omega) (by decide)).mp z; omega)]
  unfold X7_factor_J37
  rw [s_nm, s_nm, nI_1, nI_1, q_b6 (show X7_readSum (m + 1) (nI E) (nI (q + 1)) (nI 0) ea n0 (nI (k + 1)) buffer d = _ from e1), show (41 : Int32) = nI 41 from rfl, q_b3 ex, s_nm, show nI (k + 1) - (1 : Int32) = nI k from pk_sub (b := 1) (by omega)]
  rfl
end XR
