/-! NUMBERS: the reference's reader: products and sums -/
abbrev Pr : Type := Int32 → Int32 → Int32 → Int32 → Int32 → Int32 → (Nat → Int32) → (Nat → Int32) → Option (Int32 × Int32 × Int32 × Int32 × Int32 × (Nat → Int32))
/-- f reads the text s and writes pf -/
def FacP (E : Nat) (buffer : Nat → Int32) (tx : Nat → Nat) (ea nest : Int32) (f : Pr) (s pf : List Int32) : Prop :=
  ∀ (p q L : Nat) (ns : Int32) (d : Nat → Int32), p ≤ E → sk E tx p = q → AtT E tx q s → Stop E tx (q + s.length) → d 9 = nI L → L + pf.length ≤ 800 → ∃ n2, f (nI E) (nI p) (nI 0) ea ns nest buffer d = some (nI (q + s.length), nI 0, ea, n2, nest, emL d L pf)
def TerP (E : Nat) (buffer : Nat → Int32) (tx : Nat → Nat) (ea nest : Int32) (f : Pr) (s pf : List Int32) (c : Nat) : Prop :=
  ∀ (p q L : Nat) (ns : Int32) (d : Nat → Int32), p ≤ E → sk E tx p = q → AtT E tx q s → Stop E tx (q + s.length) → d 9 = nI L → L + pf.length ≤ 800 → ∃ n2, X7_term f (nI E) (nI p) (nI 0) ea ns nest buffer d = X7_term_L4 f (nI E) buffer (FU - c) (nI (q + s.length)) (nI 0) ea n2 nest (emL d L pf)
section XR
variable {E : Nat} {bytes buffer : Nat → Int32} {tx : Nat → Nat}
theorem TerP.leaf {ea nest : Int32} {f : Pr} {s pf : List Int32} (h : FacP E buffer tx ea nest f s pf) : TerP E buffer tx ea nest f s pf 0 := by
  intro p q L ns d hp hs hm he h9 hL
  obtain ⟨n2, e⟩ := h p q L ns d hp hs hm he h9 hL
  refine ⟨n2, ?_⟩
  unfold X7_term
  rw [q_b6 e]; rfl
theorem Stop.of (T : Txt E bytes buffer tx) {p c : Nat} (hp : p < E) (hc : tx p = c) (h1 : dgB c = false) (h2 : ltB c = false) : Stop E tx p := ⟨by rw [chB_in hp, hc]; exact h1, by rw [chB_in hp, hc]; exact h2⟩
/-- a's first letter is no space -/
def NoSp (s : List Int32) : Prop := ∃ m : Nat, m < 128 ∧ m ≠ 32 ∧ 0 < s.length ∧ s.getD 0 0 = nI m
theorem NoSp.at (T : Txt E bytes buffer tx) {p : Nat} {s : List Int32} (h : NoSp s) (hm : AtT E tx p s) : tx p ≠ 32 := by
  obtain ⟨m, h1, h2, h3, h4⟩ := h
  have := hm.at T (j := 0) h3 h4 (by omega)
  rw [Nat.add_zero] at this
  omega
theorem TerP.mul (T : Txt E bytes buffer tx) {ea nest : Int32} {f : Pr} {a b pa pb : List Int32} {c : Nat} (ha : TerP E buffer tx ea nest f a pa c) (hb : FacP E buffer tx ea nest f b pb) (nb : NoSp b) (hc : c < 1000) : TerP E buffer tx ea nest f (a ++ [42, 32] ++ b) (pa ++ pb ++ [nI 4]) (c + 1) := by
  intro p q L ns d hp hs hm he h9 hL
  have hE := T.1
  obtain ⟨m12, m3⟩ := hm.app
  obtain ⟨m1, m2⟩ := m12.app
  rw [List.length_append] at m3
  have m3 : AtT E tx (q + (a.length + 2)) b := m3
  have l2 := m2.1
  have l2 : q + a.length + 2 ≤ E := l2
  have l3 := m3.1
  have t0 : tx (q + a.length) = 42 := m2.at T (j := 0) (by decide) rfl (by decide)
  have t1 : tx (q + a.length + 1) = 32 := m2.at T (j := 1) (by decide) rfl (by decide)
  have hlen : (a ++ [42, 32] ++ b).length = a.length + 2 + b.length := by rw [List.length_append, List.length_append]; rfl
  have plen : (pa ++ pb ++ [nI 4]).length = pa.length + pb.length + 1 := by rw [List.length_append, List.length_append]; rfl
  rw [plen] at hL
  rw [hlen] at he ⊢
  obtain ⟨n2, e1⟩ := ha p q L ns d hp hs m1 (Stop.of T (by omega) t0 (by decide) (by decide)) h9 (by omega)
  have g9 := emL_9 h9 pa
  have n3 := nb.at T m3
  obtain ⟨n4, e2⟩ := hb (q + a.length + 1) (q + a.length + 2) (L + pa.length) n2 (emL d L pa) (by omega) (sk_one (by omega) t1 (by rw [show q + a.length + 1 + 1 = q + (a.length + 2) by omega]; exact n3)) (by rw [show q + a.length + 2 = q + (a.length + 2) by omega]; exact m3) (by rw [show q + a.length + 2 + b.length = q + (a.length + 2 + b.length) by omega]; exact he) g9 (by omega)
  have g92 := emL_9 g9 pb
  have hA := t_ahead T (p := q + a.length) (by omega)
  rw [sk_at (show tx (q + a.length) ≠ 32 by omega), chA_in (by omega), t0] at hA
  refine ⟨n4, ?_⟩
  rw [e1, show FU - c = FU - (c + 1) + 1 by unfold FU; omega, X7_term_L4, show X7_isGood (nI 0) = some 1 from rfl, q_bn1, if_neg (show ¬ (1 : Int32) = 0 by decide), q_b2 hA, if_pos (show nI 42 = (42 : Int32) from rfl)]
  unfold X7_term_J29 X7_term_J43 X7_term_J68
  rw [q_b2 hA, if_pos (show nI 42 = (42 : Int32) from rfl), s_nm, nI_1, q_b6 e2, if_neg (show ¬ (1 : Int32) = 0 by decide), q_b1 (r_emitD (4 : Int32) g92 (by omega))]
  have ee : emL d L (pa ++ pb ++ [nI 4]) = emD (emL (emL d L pa) (L + pa.length) pb) (L + pa.length + pb.length) 4 := by
    rw [emL_app, emL_app, List.length_append, ← Nat.add_assoc]; rfl
  rw [ee, show q + a.length + 2 + b.length = q + (a.length + 2 + b.length) by omega]
end XR
