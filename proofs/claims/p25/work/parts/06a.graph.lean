/-! the law's own show, as a graph of cells that a method only reads: its numbers (LG), its cells (GF), the environment that holds it (EG) -/
abbrev LG : Type := (Nat → Nat) × (Nat → Int32) × (Nat → Int32) × (Nat → Nat → List Int32) × (Nat → Nat → Int32) × (Nat → Nat → Int32) × (Nat → Nat) × (Nat → Int32)
/-- sizes: 0 width, 1 height, 2 planes, 3 holes, 4 guests, 5 a term or none -/
def shZ (G : LG) (i : Nat) : Nat := G.1 i
/-- 0 reach, 1 length, 2 time -/
def shI (G : LG) (i : Nat) : Int32 := G.2.1 i
def shP (G : LG) (p : Nat) : Int32 := G.2.2.1 p
def shT (G : LG) (p y : Nat) : List Int32 := G.2.2.2.1 p y
def shH (G : LG) (h j : Nat) : Int32 := G.2.2.2.2.1 h j
def shG (G : LG) (k j : Nat) : Int32 := G.2.2.2.2.2.1 k j
/-- the nodes of the term by their places: 1 the root, 2 i and 2 i + 1 behind i; their kinds, their numbers -/
def shK (G : LG) (i : Nat) : Nat := G.2.2.2.2.2.2.1 i
def shN (G : LG) (i : Nat) : Int32 := G.2.2.2.2.2.2.2 i
/-- is there a node at the place i -/
def shQ (G : LG) (i : Nat) : Bool := match i with
  | 1 => true
  | 2 => decide (1 < shK G 1)
  | 3 => decide (1 < shK G 1)
  | 4 => decide (1 < shK G 1) && decide (1 < shK G 2)
  | 5 => decide (1 < shK G 1) && decide (1 < shK G 2)
  | 6 => decide (1 < shK G 1) && decide (1 < shK G 3)
  | 7 => decide (1 < shK G 1) && decide (1 < shK G 3)
  | _ => false
/-- a cell that is there, and that is none of A -/
def ro (D : va_G) (x : Nat) (e : va_E) (A : Nat → Prop) (H : Heap) : Prop := va_at D vwCl (x, e) H ∧ ¬ A x
theorem ro.go {D : va_G} {x : Nat} {e : va_E} {A B : Nat → Prop} {H0 H : Heap} (h : ro D x e A H0) (hq : ∀ a : Nat, a < H0.size → ¬ A a → H[a]? = H0[a]?) (hAB : ∀ q, B q → A q) : ro D x e B H := ⟨h.1.kept (hq x h.1.lt h.2), fun q => h.2 (hAB x q)⟩
theorem va_P1 {D : va_G} {cl : List vw_C} {x : Nat} {e : va_E} {H : Heap} (h : va_at D cl (x, e) H) : va_P D cl [(x, e)] H := by
  intro k q hk
  cases k with
  | zero => obtain rfl : (x, e) = q := Option.some.inj hk; exact h
  | succ k => exact absurd hk (by simp)
theorem ro.P {D : va_G} {x : Nat} {e : va_E} {A : Nat → Prop} {H0 H : Heap} {locs : List Loc} (h : ro D x e A H0) (hS : va_S A H0 H locs) : va_P D vwCl [(x, e)] H := va_P1 (h.1.kept (hS.2.1 x h.1.lt h.2))
abbrev refsE (c : ClassId) (n : Nat) (r : Nat → Nat) : va_E := .inl (c, n, .inr (.inr (.inr (.inr (fun i => some (r i))))))
abbrev showE (G : LG) (qP qU qH qG : Nat) (vT : Value) (qV : Nat) : va_E := .inr (10, [.int (nI (shZ G 0)), .int (nI (shZ G 1)), .int (shI G 0), .int (shI G 1), .int (shI G 2), .ref qP, .ref qU, .ref qH, .ref qG, vT, .ref qV])
abbrev guestE (f : Nat → Int32) : va_E := .inr (7, [.int (f 0), .int (f 1), .int (f 2), .int (f 3), .int (f 4), .int (f 5), .int (f 6)])
abbrev nodeE (G : LG) (rN : Nat → Nat) (i : Nat) : va_E := .inr (8, [.int (nI (shK G i)), .int (shN G i), if 1 < shK G i then .ref (rN (2 * i)) else .null, if 1 < shK G i then .ref (rN (2 * i + 1)) else .null])
def GF (D : va_G) (cy : Nat → ClassId) (G : LG) (a qV qP qU qH qG : Nat) (vT : Value) (rP rH rG : Nat → Nat) (rL : Nat → Nat → Nat) (rN : Nat → Nat) (A : Nat → Prop) (U : State) (H : Heap) : Prop :=
  ro D a (showE G qP qU qH qG vT qV) A H ∧ ro D qP (refsE (cy 7) (shZ G 2) rP) A H ∧ (∀ p, p < shZ G 2 → ro D (rP p) (refsE (cy 6) (shZ G 1) (rL p)) A H) ∧ (∀ p, p < shZ G 2 → ∀ y, y < shZ G 1 → kStrAt (shT G p y) (rL p y) A U H) ∧
  ro D qU (.inl (cy 0, shZ G 2, .inl (shP G))) A H ∧ ro D qH (refsE (cy 4) (shZ G 3) rH) A H ∧ (∀ k, k < shZ G 3 → ro D (rH k) (.inl (cy 0, 2, .inl (shH G k))) A H) ∧
  ro D qG (refsE (cy 8) (shZ G 4) rG) A H ∧ (∀ k, k < shZ G 4 → ro D (rG k) (guestE (shG G k)) A H) ∧ (vT = if shZ G 5 = 0 then .null else .ref (rN 1)) ∧ (shZ G 5 ≠ 0 → ∀ i, shQ G i = true → ro D (rN i) (nodeE G rN i) A H)
theorem GF.go {D : va_G} {cy : Nat → ClassId} {G : LG} {a qV qP qU qH qG : Nat} {vT : Value} {rP rH rG : Nat → Nat} {rL : Nat → Nat → Nat} {rN : Nat → Nat} {A B : Nat → Prop} {s U : State} {H0 H : Heap} (h : GF D cy G a qV qP qU qH qG vT rP rH rG rL rN A s H0) (hq : ∀ a : Nat, a < H0.size → ¬ A a → H[a]? = H0[a]?) (hAB : ∀ q, B q → A q) (hW : s.vm.Alike U.vm) : GF D cy G a qV qP qU qH qG vT rP rH rG rL rN B U H := by
  obtain ⟨h1, h2, h3, h4, h5, h6, h7, h8, h9, h10, h11⟩ := h
  exact ⟨h1.go hq hAB, h2.go hq hAB, fun p hp => (h3 p hp).go hq hAB, fun p hp y hy => (h4 p hp y hy).go hq hAB hW, h5.go hq hAB, h6.go hq hAB, fun k hk => (h7 k hk).go hq hAB, h8.go hq hAB, fun k hk => (h9 k hk).go hq hAB, h10, fun h0 i hi => (h11 h0 i hi).go hq hAB⟩
def EG (D : va_G) (cy : Nat → ClassId) (G : LG) (a qV : Nat) (A : Nat → Prop) (U : State) (H : Heap) : Prop :=
  EN D cy A U H ∧ ∃ (qP qU qH qG : Nat) (vT : Value) (rP rH rG : Nat → Nat) (rL : Nat → Nat → Nat) (rN : Nat → Nat), GF D cy G a qV qP qU qH qG vT rP rH rG rL rN A U H
theorem EG_ok (D : va_G) (cy : Nat → ClassId) (G : LG) (a qV : Nat) : EOK (EG D cy G a qV) := by
  intro A B s U H0 H h hq hAB hW
  obtain ⟨h1, qP, qU, qH, qG, vT, rP, rH, rG, rL, rN, h2⟩ := h
  exact ⟨EN_ok D cy A B s U H0 H h1 hq hAB hW, qP, qU, qH, qG, vT, rP, rH, rG, rL, rN, h2.go hq hAB hW.alike⟩
/-- .. and with a guest in the hand -/
def EU (D : va_G) (cy : Nat → ClassId) (G : LG) (a qV x : Nat) (f : Nat → Int32) (A : Nat → Prop) (U : State) (H : Heap) : Prop := EG D cy G a qV A U H ∧ ro D x (guestE f) A H
theorem EU_ok (D : va_G) (cy : Nat → ClassId) (G : LG) (a qV x : Nat) (f : Nat → Int32) : EOK (EU D cy G a qV x f) := fun A B s U H0 H h hq hAB hW => ⟨EG_ok D cy G a qV A B s U H0 H h.1 hq hAB hW, h.2.go hq hAB⟩
/-- the nodes alone -/
def ET (D : va_G) (cy : Nat → ClassId) (G : LG) (rN : Nat → Nat) (A : Nat → Prop) (U : State) (H : Heap) : Prop := EN D cy A U H ∧ ∀ i, shQ G i = true → ro D (rN i) (nodeE G rN i) A H
theorem ET_ok (D : va_G) (cy : Nat → ClassId) (G : LG) (rN : Nat → Nat) : EOK (ET D cy G rN) := fun A B s U H0 H h hq hAB hW => ⟨EN_ok D cy A B s U H0 H h.1 hq hAB hW, fun i hi => (h.2 i hi).go hq hAB⟩
theorem kg_lt {e : Int32} {n : Nat} (h : ¬ (e < 0 ∨ n ≤ e.toNatClampNeg)) : e.toNatClampNeg < n := Nat.not_le.mp fun q => h (Or.inr q)
theorem kg_char {v : Int32} (h : vp_nar .char v = v) : narrow .char (.int v) = .int v := by
  have e : narrow .char (.int v) = .int (vp_nar .char v) := rfl
  rw [e, h]
section KG
variable {p : Program} {l : Launch} {e : Env} {R : Room} {s : State} {m : MethodId} {args : Array Value} {below : List Frame} {meth : Method} {c : Code} {H : Heap} {locs : List Loc} {cells slots : Nat} {Q : State → Prop}
variable {cc : ByteArray} {pc mc ms : Nat} {ls : Array Slot} {rest st0 : List Value} {D : va_G} {cl : List vw_C} {A : Nat → Prop} {x : Nat} {tys : List (ClassId × FieldType)} {a : Array Value} {ws : va_W}
/-- a place of an array of arrays -/
theorem kg_alda (hexec : p.tables.exec = Jvm.exec) (hb : c.code = cc) (hK : va_K D cl tys s) (hP : va_P D cl ws H) (q0 t0 : Nat) {cA : ClassId} {n : Nat} {f : Nat → Option Nat} {ty : FieldType} (ha : ws[q0]? = some (x, .inl (cA, n, .inr (.inr (.inr (.inr f)))))) (ht : tys[t0]? = some (cA, .array ty)) {i : Int32} (hin : vp_in i n) (hdg : decode cc pc = .ok (.aaload, 1))
    (kk : W p l e R s m args below meth c H locs cells slots Q (F0 m (pc + 1) ls (va_rf (f i.toNatClampNeg) :: rest))) : W p l e R s m args below meth c H locs cells slots Q (F0 m pc ls (.int i :: .ref x :: rest)) := by
  have hlt : i.toNatClampNeg < n := Nat.not_le.mp fun q => hin (Or.inr q)
  exact W.aald (v := va_rf (f i.toNatClampNeg)) (ty := .array ty) hexec hb (hP q0 _ ha) ((hK.2 t0 _ ht).1 n (fun j => va_rf (f j))) rfl (fun q => by cases q) (by show ¬ (i < 0 ∨ (arrV _ _ _).slots.size ≤ _); rw [arrV_size]; exact hin) (by show (arrV _ _ _).slots[_]? = _; rw [arrV_read _ _ hlt]) rfl rfl hdg kk
/-- a call that writes no cell of the caller's -/
theorem kg_i {v : Int32} (hr : va_Run p l e R s m args below meth c H locs cells slots mc ms (F0 m pc ls st0) rest (kQi D v [] (va_A [] H.size) a) (va_A [] H.size)) (hP : va_P D vwCl ws H) (hD : va_D A ws) (hS : va_S A s.heap H locs) (hA : ∀ q, s.heap.size ≤ q → A q)
    (kk : ∀ (H1 : Heap) (locs1 : List Loc), va_P D vwCl ws H1 → va_D A ws → va_S A s.heap H1 locs1 → W p l e R s m args below meth c H1 locs1 (cells + mc) (slots + ms) Q (F0 m (pc + 3) ls (.int v :: rest))) : W p l e R s m args below meth c H locs cells slots Q (F0 m pc ls st0) := by
  refine kc_i hr hP hD hS hA [] rfl (Nat.le_refl _) (fun H1 locs1 h1 h2 h3 => ?_)
  have e1 : wjn ws [] [] = ws := by show wset ws [] [] ++ [] = ws; rw [List.append_nil]; cases ws <;> rfl
  rw [e1] at h1 h2
  exact kk H1 locs1 h1 h2 h3
theorem kg_l {v : Int64} (hr : va_Run p l e R s m args below meth c H locs cells slots mc ms (F0 m pc ls st0) rest (kQl D v [] (va_A [] H.size) a) (va_A [] H.size)) (hP : va_P D vwCl ws H) (hD : va_D A ws) (hS : va_S A s.heap H locs) (hA : ∀ q, s.heap.size ≤ q → A q)
    (kk : ∀ (H1 : Heap) (locs1 : List Loc), va_P D vwCl ws H1 → va_D A ws → va_S A s.heap H1 locs1 → W p l e R s m args below meth c H1 locs1 (cells + mc) (slots + ms) Q (F0 m (pc + 3) ls (.long v :: rest))) : W p l e R s m args below meth c H locs cells slots Q (F0 m pc ls st0) := by
  refine kc_l hr hP hD hS hA [] rfl (Nat.le_refl _) (fun H1 locs1 h1 h2 h3 => ?_)
  have e1 : wjn ws [] [] = ws := by show wset ws [] [] ++ [] = ws; rw [List.append_nil]; cases ws <;> rfl
  rw [e1] at h1 h2
  exact kk H1 locs1 h1 h2 h3
theorem kg_budget {k j K : Nat} (h : k + j ≤ K) : k + j ≤ K ∧ 26 * k + 26 * j ≤ 26 * K := by omega
theorem kg_step {k j : Nat} {g : JFrame} (kk : W p l e R s m args below meth c H locs (k + j) (26 * (k + j)) Q g) : W p l e R s m args below meth c H locs (k + j) (26 * k + 26 * j) Q g := by
  rw [Nat.mul_add] at kk; exact kk
end KG
