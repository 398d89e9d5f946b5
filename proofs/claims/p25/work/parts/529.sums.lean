/-! NUMBERS: the reference's reader: quotients, sums, parentheses -/
section XR
variable {E : Nat} {bytes buffer : Nat → Int32} {tx : Nat → Nat}
theorem TerP.div (T : Txt E bytes buffer tx) {ea nest : Int32} {f : Pr} {a b pa pb : List Int32} {c : Nat} (ha : TerP E buffer tx ea nest f a pa c) (hb : FacP E buffer tx ea nest f b pb) (nb : NoSp b) (hc : c < 1000) : TerP E buffer tx ea nest f (a ++ [47] ++ b) (pa ++ pb ++ [nI 5]) (c + 1) := by
  intro p q L ns d hp hs hm he h9 hL
  have hE := T.1
  obtain ⟨m12, m3⟩ := hm.app
  obtain ⟨m1, m2⟩ := m12.app
  rw [List.length_append] at m3
  have m3 : AtT E tx (q + (a.length + 1)) b := m3
  have l2 := m2.1
  have l2 : q + a.length + 1 ≤ E := l2
  have l3 := m3.1
  have t0 : tx (q + a.length) = 47 := m2.at T (j := 0) (by decide) rfl (by decide)
  have hlen : (a ++ [47] ++ b).length = a.length + 1 + b.length := by rw [List.length_append, List.length_append]; rfl
  have plen : (pa ++ pb ++ [nI 5]).length = pa.length + pb.length + 1 := by rw [List.length_append, List.length_append]; rfl
  rw [plen] at hL
  rw [hlen] at he ⊢
  obtain ⟨n2, e1⟩ := ha p q L ns d hp hs m1 (Stop.of T (by omega) t0 (by decide) (by decide)) h9 (by omega)
  have g9 := emL_9 h9 pa
  have n3 := nb.at T m3
  obtain ⟨n4, e2⟩ := hb (q + a.length + 1) (q + a.length + 1) (L + pa.length) n2 (emL d L pa) (by omega) (sk_at (by rw [show q + a.length + 1 = q + (a.length + 1) by omega]; exact n3)) (by rw [show q + a.length + 1 = q + (a.length + 1) by omega]; exact m3) (by rw [show q + a.length + 1 + b.length = q + (a.length + 1 + b.length) by omega]; exact he) g9 (by omega)
  have g92 := emL_9 g9 pb
  have hA := t_ahead T (p := q + a.length) (by omega)
  rw [sk_at (show tx (q + a.length) ≠ 32 by omega), chA_in (by omega), t0] at hA
  refine ⟨n4, ?_⟩
  rw [e1, show FU - c = FU - (c + 1) + 1 by unfold FU; omega, X7_term_L4, show X7_isGood (nI 0) = some 1 from rfl, q_bn1, if_neg (show ¬ (1 : Int32) = 0 by decide), q_b2 hA, if_neg (show ¬ nI 47 = (42 : Int32) by decide), q_b2 hA, if_pos (show nI 47 = (47 : Int32) from rfl)]
  unfold X7_term_J29 X7_term_J43 X7_term_J68
  rw [q_b2 hA, if_neg (show ¬ nI 47 = (42 : Int32) by decide), s_nm, nI_1, q_b6 e2, if_pos (show (0 : Int32) = 0 from rfl), q_b1 (r_emitD (5 : Int32) g92 (by omega))]
  have ee : emL d L (pa ++ pb ++ [nI 5]) = emD (emL (emL d L pa) (L + pa.length) pb) (L + pa.length + pb.length) 5 := by
    rw [emL_app, emL_app, List.length_append, ← Nat.add_assoc]; rfl
  rw [ee, show q + a.length + 1 + b.length = q + (a.length + 1 + b.length) by omega]
/-- behind p, past spaces, no sign of a product (of a sum) -/
def NoMul (E : Nat) (tx : Nat → Nat) (p : Nat) : Prop := ¬ chA E tx (sk E tx p) = (42 : Int32) ∧ ¬ chA E tx (sk E tx p) = (47 : Int32)
def NoAdd (E : Nat) (tx : Nat → Nat) (p : Nat) : Prop := ¬ chA E tx (sk E tx p) = (43 : Int32) ∧ ¬ chA E tx (sk E tx p) = (45 : Int32)
/-- f reads the text s up to what comes behind the spaces -/
def SpP (E : Nat) (buffer : Nat → Int32) (tx : Nat → Nat) (ea nest : Int32) (f : Pr) (s pf : List Int32) : Prop :=
  ∀ (p q L : Nat) (ns : Int32) (d : Nat → Int32), p ≤ E → sk E tx p = q → AtT E tx q s → Stop E tx (q + s.length) → NoMul E tx (q + s.length) → d 9 = nI L → L + pf.length ≤ 800 → ∃ n2, f (nI E) (nI p) (nI 0) ea ns nest buffer d = some (nI (sk E tx (q + s.length)), nI 0, ea, n2, nest, emL d L pf)
theorem TerP.sp (T : Txt E bytes buffer tx) {ea nest : Int32} {f : Pr} {s pf : List Int32} {c : Nat} (h : TerP E buffer tx ea nest f s pf c) (hc : c < 1000) : SpP E buffer tx ea nest (X7_term f) s pf := by
  intro p q L ns d hp hs hm he hn h9 hL
  obtain ⟨n2, e1⟩ := h p q L ns d hp hs hm he h9 hL
  have l1 := hm.1
  have hA := t_ahead T (p := q + s.length) l1
  have hA2 := t_ahead T (p := sk E tx (q + s.length)) (sk_le l1)
  rw [sk_sk] at hA2
  refine ⟨n2, ?_⟩
  rw [e1, show FU - c = FU - (c + 1) + 1 by unfold FU; omega, X7_term_L4, show X7_isGood (nI 0) = some 1 from rfl, q_bn1, if_neg (show ¬ (1 : Int32) = 0 by decide), q_b2 hA, if_neg hn.1, q_b2 hA2, if_neg hn.2]
def SumP (E : Nat) (buffer : Nat → Int32) (tx : Nat → Nat) (ea nest : Int32) (f : Pr) (s pf : List Int32) (c : Nat) : Prop :=
  ∀ (p q L : Nat) (ns : Int32) (d : Nat → Int32), p ≤ E → sk E tx p = q → AtT E tx q s → Stop E tx (q + s.length) → NoMul E tx (q + s.length) → d 9 = nI L → L + pf.length ≤ 800 → ∃ n2 p2, p2 ≤ E ∧ sk E tx p2 = sk E tx (q + s.length) ∧ X7_readSum_b f (nI E) (nI p) (nI 0) ea ns nest buffer d = X7_readSum_L4 f (nI E) buffer (FU - c) (nI p2) (nI 0) ea n2 nest (emL d L pf)
theorem SumP.leaf {ea nest : Int32} {f : Pr} {s pf : List Int32} (h : SpP E buffer tx ea nest f s pf) : SumP E buffer tx ea nest f s pf 0 := by
  intro p q L ns d hp hs hm he hn h9 hL
  obtain ⟨n2, e⟩ := h p q L ns d hp hs hm he hn h9 hL
  refine ⟨n2, _, sk_le hm.1, sk_sk _ _ _, ?_⟩
  unfold X7_readSum_b
  rw [q_b6 e]; rfl
theorem SumP.end_ (T : Txt E bytes buffer tx) {ea nest : Int32} {f : Pr} {s pf : List Int32} {c : Nat} (h : SumP E buffer tx ea nest f s pf c) (hc : c < 1000) {p q L : Nat} {ns : Int32} {d : Nat → Int32} (hp : p ≤ E) (hs : sk E tx p = q) (hm : AtT E tx q s) (he : Stop E tx (q + s.length)) (hn : NoMul E tx (q + s.length)) (ha : NoAdd E tx (q + s.length)) (h9 : d 9 = nI L) (hL : L + pf.length ≤ 800) : ∃ n2, X7_readSum_b f (nI E) (nI p) (nI 0) ea ns nest buffer d = some (nI (sk E tx (q + s.length)), nI 0, ea, n2, nest, emL d L pf) := by
  obtain ⟨n2, p2, h2, h3, e1⟩ := h p q L ns d hp hs hm he hn h9 hL
  have hA := t_ahead T h2
  rw [h3] at hA
  have hA2 := t_ahead T (p := sk E tx (q + s.length)) (sk_le hm.1)
  rw [sk_sk] at hA2
  refine ⟨n2, ?_⟩
  rw [e1, show FU - c = FU - (c + 1) + 1 by unfold FU; omega, X7_readSum_L4, show X7_isGood (nI 0) = some 1 from rfl, q_bn1, if_neg (show ¬ (1 : Int32) = 0 by decide), q_b2 hA, if_neg ha.1, q_b2 hA2, if_neg ha.2]
end XR
