/-! the show whose guests change: what of it is only read (GR), and the starts of the calls that read it whole -/
def shUpG (G : LG) (gg : Nat → Nat → Int32) : LG := (G.1, G.2.1, G.2.2.1, G.2.2.2.1, G.2.2.2.2.1, gg, G.2.2.2.2.2.2)
abbrev showT (G : LG) (t : Int32) (qP qU qH qG : Nat) (vT : Value) (qV : Nat) : va_E := .inr (10, [.int (nI (shZ G 0)), .int (nI (shZ G 1)), .int (shI G 0), .int (shI G 1), .int t, .ref qP, .ref qU, .ref qH, .ref qG, vT, .ref qV])
def gset (gg : Nat → Nat → Int32) (k j : Nat) (v : Int32) : Nat → Nat → Int32 := fun i => if i = k then (fun m => if m = j then v else gg i m) else gg i
theorem rl_gset {X : va_W} {n k j : Nat} {r : Nat → Nat} {gg : Nat → Nat → Int32} {v : Int32} (hk : k < n) (hj : j < 7) : (X ++ rl n r (fun i => guestE (gg i))).set (X.length + k) (r k, .inr (7, [.int (gg k 0), .int (gg k 1), .int (gg k 2), .int (gg k 3), .int (gg k 4), .int (gg k 5), .int (gg k 6)].set j (.int v))) = X ++ rl n r (fun i => guestE (gset gg k j v i)) := by
  rw [rl_set hk]
  congr 1
  refine rl_congr (fun i _ => ⟨rfl, ?_⟩)
  by_cases h : i = k
  · subst h
    rw [if_pos rfl]
    unfold gset guestE
    rw [if_pos rfl]
    match j, hj with
    | 0, _ => rfl
    | 1, _ => rfl
    | 2, _ => rfl
    | 3, _ => rfl
    | 4, _ => rfl
    | 5, _ => rfl
    | 6, _ => rfl
  · rw [if_neg h]
    unfold gset
    rw [if_neg h]
def GR (D : va_G) (cy : Nat → ClassId) (G : LG) (qP qU qH qG : Nat) (vT : Value) (rP rH rG : Nat → Nat) (rL : Nat → Nat → Nat) (rN : Nat → Nat) (A : Nat → Prop) (U : State) (H : Heap) : Prop :=
  ro D qP (refsE (cy 7) (shZ G 2) rP) A H ∧ (∀ p, p < shZ G 2 → ro D (rP p) (refsE (cy 6) (shZ G 1) (rL p)) A H) ∧ (∀ p, p < shZ G 2 → ∀ y, y < shZ G 1 → kStrAt (shT G p y) (rL p y) A U H) ∧
  ro D qU (.inl (cy 0, shZ G 2, .inl (shP G))) A H ∧ ro D qH (refsE (cy 4) (shZ G 3) rH) A H ∧ (∀ k, k < shZ G 3 → ro D (rH k) (.inl (cy 0, 2, .inl (shH G k))) A H) ∧
  ro D qG (refsE (cy 8) (shZ G 4) rG) A H ∧ (vT = if shZ G 5 = 0 then .null else .ref (rN 1)) ∧ (shZ G 5 ≠ 0 → ∀ i, shQ G i = true → ro D (rN i) (nodeE G rN i) A H)
theorem GR.go {D : va_G} {cy : Nat → ClassId} {G : LG} {qP qU qH qG : Nat} {vT : Value} {rP rH rG : Nat → Nat} {rL : Nat → Nat → Nat} {rN : Nat → Nat} {A B : Nat → Prop} {s U : State} {H0 H : Heap} (h : GR D cy G qP qU qH qG vT rP rH rG rL rN A s H0) (hq : ∀ a : Nat, a < H0.size → ¬ A a → H[a]? = H0[a]?) (hAB : ∀ q, B q → A q) (hW : s.vm.Alike U.vm) : GR D cy G qP qU qH qG vT rP rH rG rL rN B U H := by
  obtain ⟨h2, h3, h4, h5, h6, h7, h8, h10, h11⟩ := h
  exact ⟨h2.go hq hAB, fun p hp => (h3 p hp).go hq hAB, fun p hp y hy => (h4 p hp y hy).go hq hAB hW, h5.go hq hAB, h6.go hq hAB, fun k hk => (h7 k hk).go hq hAB, h8.go hq hAB, h10, fun h0 i hi => (h11 h0 i hi).go hq hAB⟩
def ER (D : va_G) (cy : Nat → ClassId) (G : LG) (qP qU qH qG : Nat) (vT : Value) (rP rH rG : Nat → Nat) (rL : Nat → Nat → Nat) (rN : Nat → Nat) (A : Nat → Prop) (U : State) (H : Heap) : Prop := EN D cy A U H ∧ GR D cy G qP qU qH qG vT rP rH rG rL rN A U H
theorem ER_ok (D : va_G) (cy : Nat → ClassId) (G : LG) (qP qU qH qG : Nat) (vT : Value) (rP rH rG : Nat → Nat) (rL : Nat → Nat → Nat) (rN : Nat → Nat) : EOK (ER D cy G qP qU qH qG vT rP rH rG rL rN) := fun A B s U H0 H h hq hAB hW => ⟨EN_ok D cy A B s U H0 H h.1 hq hAB hW, h.2.go hq hAB hW.alike⟩
theorem wjn_app1 {ws : va_W} {x : Nat × va_E} : wjn ws [1] [x] = ws.set 1 x := by
  unfold wjn
  show ws.set 1 x ++ [] = _
  rw [List.append_nil]
/-- the cells of such a show -/
abbrev tkE (cy : Nat → ClassId) (G : LG) (a qV qP qU qH qG : Nat) (vT : Value) (rG : Nat → Nat) (va : Nat → Int64) (gg : Nat → Nat → Int32) : va_W := [(a, showE G qP qU qH qG vT qV), (qV, .inl (cy 2, 4, .inr (.inl va)))] ++ rl (shZ G 4) rG (fun i => guestE (gg i))
section KST
variable {D : va_G} {cy : Nat → ClassId} {G : LG} {a qV qP qU qH qG : Nat} {vT : Value} {rP rH rG : Nat → Nat} {rL : Nat → Nat → Nat} {rN : Nat → Nat} {A : Nat → Prop} {s : State} {H : Heap} {locs : List Loc} {va : Nat → Int64} {gg : Nat → Nat → Int32}
theorem tk_free {wc : va_W} (hwc : wc = [] ∨ wc = [(qV, .inl (cy 2, 4, .inr (.inl va)))]) (hD : va_D A (tkE cy G a qV qP qU qH qG vT rG va gg)) (hS : va_S A s.heap H locs) (hA : ∀ q, s.heap.size ≤ q → A q) : ∀ q, va_A wc H.size q → A q := by
  intro q h
  rcases h with ⟨k, e, h⟩ | h
  · rcases hwc with rfl | rfl
    · exact absurd h (by simp)
    · cases k with
      | zero =>
        have e1 : (qV, (.inl (cy 2, 4, .inr (.inl va)) : va_E)) = (q, e) := Option.some.inj h
        have := hD.2 1 _ rfl
        have e2 : qV = q := congrArg Prod.fst e1
        rw [← e2]; exact this
      | succ k => exact absurd h (by simp)
  · exact hA q (Nat.le_trans hS.1 h)
theorem tk_out {wc : va_W} (hwc : wc = [] ∨ wc = [(qV, .inl (cy 2, 4, .inr (.inl va)))]) (hP : va_P D vwCl (tkE cy G a qV qP qU qH qG vT rG va gg) H) (hD : va_D A (tkE cy G a qV qP qU qH qG vT rG va gg)) {k : Nat} {x : Nat × va_E} (hx : (tkE cy G a qV qP qU qH qG vT rG va gg)[k]? = some x) (hk : k ≠ 1) : ¬ va_A wc H.size x.1 := by
  intro h
  rcases h with ⟨j, e, h⟩ | h
  · rcases hwc with rfl | rfl
    · exact absurd h (by simp)
    · cases j with
      | zero =>
        have e1 : (qV, (.inl (cy 2, 4, .inr (.inl va)) : va_E)) = (x.1, e) := Option.some.inj h
        exact hk (hD.1 k 1 x _ hx rfl (congrArg Prod.fst e1).symm)
      | succ k => exact absurd h (by simp)
  · exact absurd (hP k x hx).lt (Nat.not_lt.mpr h)
theorem tk_EG {wc : va_W} (hwc : wc = [] ∨ wc = [(qV, .inl (cy 2, 4, .inr (.inl va)))]) (hN : EN D cy A s s.heap) (hR : GR D cy G qP qU qH qG vT rP rH rG rL rN A s s.heap) (hP : va_P D vwCl (tkE cy G a qV qP qU qH qG vT rG va gg) H) (hD : va_D A (tkE cy G a qV qP qU qH qG vT rG va gg)) (hS : va_S A s.heap H locs) (hA : ∀ q, s.heap.size ≤ q → A q) (U : State) (hW : s.WarmedH U.vm) : EG D cy (shUpG G gg) a qV (va_A wc H.size) U H := by
  have hf := tk_free hwc hD hS hA
  obtain ⟨r2, r3, r4, r5, r6, r7, r8, r10, r11⟩ := hR.go (H := H) (U := U) (B := va_A wc H.size) hS.2.1 hf hW.alike
  refine ⟨EN_ok D cy A _ s U s.heap H hN hS.2.1 hf hW, qP, qU, qH, qG, vT, rP, rH, rG, rL, rN, ⟨hP 0 _ rfl, tk_out hwc hP hD (k := 0) rfl (by decide)⟩, r2, r3, r4, r5, r6, r7, r8, fun k hk => ?_, r10, r11⟩
  have hg : (tkE cy G a qV qP qU qH qG vT rG va gg)[2 + k]? = some (rG k, guestE (gg k)) := rl_get (X := [(a, showE G qP qU qH qG vT qV), (qV, .inl (cy 2, 4, .inr (.inl va)))]) (show k < shZ G 4 from hk)
  exact ⟨hP _ _ hg, tk_out hwc hP hD hg (by omega)⟩
theorem kStartT {wc : va_W} (hwc : wc = [] ∨ wc = [(qV, .inl (cy 2, 4, .inr (.inl va)))]) (hN : EN D cy A s s.heap) (hR : GR D cy G qP qU qH qG vT rP rH rG rL rN A s s.heap) (hP : va_P D vwCl (tkE cy G a qV qP qU qH qG vT rG va gg) H) (hD : va_D A (tkE cy G a qV qP qU qH qG vT rG va gg)) (hS : va_S A s.heap H locs) (hA : ∀ q, s.heap.size ≤ q → A q) (av : List Value) : ∀ U : State, U.heap = H → s.WarmedH U.vm → kP (EG D cy (shUpG G gg) a qV) D av wc H.size av.toArray U := by
  intro U hU hW
  have hE := tk_EG hwc hN hR hP hD hS hA U hW
  refine ⟨rfl, by rw [hU], ?_, ?_, by rw [hU]; exact hE⟩
  · rcases hwc with rfl | rfl
    · exact fun k q hk => absurd hk (by simp)
    · rw [hU]; exact hP.sub [1] rfl
  · rcases hwc with rfl | rfl
    · exact ⟨fun i j p q hi => absurd hi (by simp), fun k q hk => absurd hk (by simp)⟩
    · exact (hD.sub [1] rfl rfl).any (fun _ _ _ => trivial)
theorem kStartU {k : Nat} (hk : k < shZ G 4) (hN : EN D cy A s s.heap) (hR : GR D cy G qP qU qH qG vT rP rH rG rL rN A s s.heap) (hP : va_P D vwCl (tkE cy G a qV qP qU qH qG vT rG va gg) H) (hD : va_D A (tkE cy G a qV qP qU qH qG vT rG va gg)) (hS : va_S A s.heap H locs) (hA : ∀ q, s.heap.size ≤ q → A q) (av : List Value) : ∀ U : State, U.heap = H → s.WarmedH U.vm → kP (EU D cy (shUpG G gg) a qV (rG k) (gg k)) D av [] H.size av.toArray U := by
  intro U hU hW
  have hE := tk_EG (wc := []) (Or.inl rfl) hN hR hP hD hS hA U hW
  have hg : (tkE cy G a qV qP qU qH qG vT rG va gg)[2 + k]? = some (rG k, guestE (gg k)) := rl_get (X := [(a, showE G qP qU qH qG vT qV), (qV, .inl (cy 2, 4, .inr (.inl va)))]) hk
  refine ⟨rfl, by rw [hU], fun k q hk => absurd hk (by simp), ⟨fun i j p q hi => absurd hi (by simp), fun k q hk => absurd hk (by simp)⟩, ?_⟩
  rw [hU]
  exact ⟨hE, hP _ _ hg, tk_out (wc := []) (Or.inl rfl) hP hD hg (by omega)⟩
end KST
