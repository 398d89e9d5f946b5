/-! the law's shows among the world's cells: what is only read of them; what the law does to a show's numbers -/
theorem ro_mem {D : va_G} {ws X : va_W} {H : Heap} {x : Nat} {e : va_E} (hP : va_P D vwCl ws H) (h : (x, e) ∈ ws) (hn : ∀ z ∈ X, z.1 ≠ x) : ro D x e (va_A X H.size) H := by
  obtain ⟨k, hk⟩ := List.getElem?_of_mem h
  refine ⟨hP k _ hk, fun q => ?_⟩
  rcases q with ⟨j, e2, hj⟩ | q
  · exact hn _ (List.mem_of_getElem? hj) rfl
  · exact absurd (hP k _ hk).lt (Nat.not_lt.mpr q)
theorem ro_all {D : va_G} {ws : va_W} {H : Heap} (hP : va_P D vwCl ws H) : ∀ (x : Nat) (e : va_E), (x, e) ∈ ws → ro D x e (va_A [] H.size) H := fun _ _ h => ro_mem hP h (fun _ hz => absurd hz List.not_mem_nil)
theorem ro_front {D : va_G} {A : Nat → Prop} {X Y : va_W} {H : Heap} (hP : va_P D vwCl (X ++ Y) H) (hD : va_D A (X ++ Y)) : ∀ (x : Nat) (e : va_E), (x, e) ∈ Y → ro D x e (va_A X H.size) H := by
  intro x e h
  refine ro_mem hP (List.mem_append_right _ h) (fun z hz he => ?_)
  obtain ⟨i, hi⟩ := List.getElem?_of_mem hz
  obtain ⟨j, hj⟩ := List.getElem?_of_mem h
  have h1 : i < X.length := (List.getElem?_eq_some_iff.mp hi).1
  have h2 := hD.1 i (X.length + j) z (x, e) (by rw [List.getElem?_append_left h1]; exact hi) (by rw [List.getElem?_append_right (by omega), show X.length + j - X.length = j by omega]; exact hj) he
  omega
theorem ro_mid {D : va_G} {A : Nat → Prop} {P X Z : va_W} {H : Heap} (hP : va_P D vwCl (P ++ (X ++ Z)) H) (hD : va_D A (P ++ (X ++ Z))) : ∀ (x : Nat) (e : va_E), (x, e) ∈ P ++ Z → ro D x e (va_A X H.size) H := ro_front (hP.perm pm_rot) (hD.perm pm_rot)
/-- a String among such cells -/
theorem str_ro {Ts : List Cond} {args : Array Value} {D : va_G} {cy : Nat → ClassId} {s U : State} {H : Heap} {Aw : Nat → Prop} {M : va_W} (hts : ∀ w ∈ Ts, w.before args s = true) (hin : ∀ w ∈ u_ws RJ0 TJ0 4, w ∈ Ts) (hK : va_K D vwCl (kTys cy) s) (hW : s.WarmedH U.vm) (hro : ∀ (x : Nat) (e : va_E), (x, e) ∈ M → ro D x e Aw H) {tx : List Int32} {r : Nat} (h : strM cy tx r M) : kStrAt tx r Aw U H := by
  obtain ⟨v, f, h1, h2, hf⟩ := h
  exact (kStr_of hts hin hK (hro _ _ h1) (hro _ _ h2) hf).go (fun _ _ _ => rfl) (fun _ h => h) hW.alike
theorem GF_of {Ts : List Cond} {args : Array Value} {D : va_G} {cy : Nat → ClassId} {s U : State} {H : Heap} {Aw : Nat → Prop} {M : va_W} (hts : ∀ w ∈ Ts, w.before args s = true) (hin : ∀ w ∈ u_ws RJ0 TJ0 4, w ∈ Ts) (hK : va_K D vwCl (kTys cy) s) (hW : s.WarmedH U.vm) (hro : ∀ (x : Nat) (e : va_E), (x, e) ∈ M → ro D x e Aw H) {G : LG} {a qV qP qU qH qG : Nat} {vT : Value} {rP rH rG : Nat → Nat} {rL : Nat → Nat → Nat} {rN : Nat → Nat} (hI : GI cy G qP qH vT rP rH rL rN M) (h1 : (a, showE G qP qU qH qG vT qV) ∈ M) (h2 : (qU, (.inl (cy 0, shZ G 2, .inl (shP G)) : va_E)) ∈ M) (h3 : (qG, refsE (cy 8) (shZ G 4) rG) ∈ M) (h4 : ∀ k, k < shZ G 4 → (rG k, guestE (shG G k)) ∈ M) : GF D cy G a qV qP qU qH qG vT rP rH rG rL rN Aw U H := by
  obtain ⟨i1, i2, i3, i4, i5, i6, i7⟩ := hI
  exact ⟨hro _ _ h1, hro _ _ i1, fun p hp => hro _ _ (i2 p hp), fun p hp y hy => str_ro hts hin hK hW hro (i3 p hp y hy), hro _ _ h2, hro _ _ i4, fun k hk => hro _ _ (i5 k hk), hro _ _ h3, fun k hk => hro _ _ (h4 k hk), i6, fun h0 i hi => hro _ _ (i7 h0 i hi)⟩
theorem GR_of {Ts : List Cond} {args : Array Value} {D : va_G} {cy : Nat → ClassId} {s U : State} {H : Heap} {Aw : Nat → Prop} {M : va_W} (hts : ∀ w ∈ Ts, w.before args s = true) (hin : ∀ w ∈ u_ws RJ0 TJ0 4, w ∈ Ts) (hK : va_K D vwCl (kTys cy) s) (hW : s.WarmedH U.vm) (hro : ∀ (x : Nat) (e : va_E), (x, e) ∈ M → ro D x e Aw H) {G : LG} {qP qU qH qG : Nat} {vT : Value} {rP rH rG : Nat → Nat} {rL : Nat → Nat → Nat} {rN : Nat → Nat} (hI : GI cy G qP qH vT rP rH rL rN M) (h2 : (qU, (.inl (cy 0, shZ G 2, .inl (shP G)) : va_E)) ∈ M) (h3 : (qG, refsE (cy 8) (shZ G 4) rG) ∈ M) : GR D cy G qP qU qH qG vT rP rH rG rL rN Aw U H := by
  obtain ⟨i1, i2, i3, i4, i5, i6, i7⟩ := hI
  exact ⟨hro _ _ i1, fun p hp => hro _ _ (i2 p hp), fun p hp y hy => str_ro hts hin hK hW hro (i3 p hp y hy), hro _ _ h2, hro _ _ i4, fun k hk => hro _ _ (i5 k hk), hro _ _ h3, i6, fun h0 i hi => hro _ _ (i7 h0 i hi)⟩
/-- an environment of the entry, at a call whose cells are X -/
theorem env_at {E : (Nat → Prop) → State → Heap → Prop} (hE : EOK E) {A : Nat → Prop} {P X Z : va_W} {s U : State} {H : Heap} {locs : List Loc} (h0 : E A s s.heap) (hD : va_D A (P ++ (X ++ Z))) (hS : va_S A s.heap H locs) (hA : ∀ q, s.heap.size ≤ q → A q) (hW : s.WarmedH U.vm) : E (va_A X H.size) U H :=
  hE A _ s U s.heap H h0 (fun a h1 h2 => hS.2.1 a h1 h2) (kp_free (hD.perm pm_rot) hS hA) hW
/-- the start of a call that gets no cell of the world -/
theorem kStart0 {E : (Nat → Prop) → State → Heap → Prop} {D : va_G} {s : State} {H : Heap} (h : ∀ U : State, U.heap = H → s.WarmedH U.vm → E (va_A [] H.size) U H) (av : List Value) : ∀ U : State, U.heap = H → s.WarmedH U.vm → kP E D av [] H.size av.toArray U := fun U hU hW => ⟨rfl, by rw [hU], fun k q hk => absurd hk (by simp), ⟨fun i j p q hi => absurd hi (by simp), fun k q hk => absurd hk (by simp)⟩, by rw [hU]; exact h U hU hW⟩
/-- a show all of whose cells stand in Z -/
def GC (cy : Nat → ClassId) (G : LG) (x : Option Nat) (Z : va_W) : Prop := ∃ (a qV qP qU qH qG : Nat) (vT : Value) (rP rH rG : Nat → Nat) (rL : Nat → Nat → Nat) (rN : Nat → Nat), x = some a ∧ GI cy G qP qH vT rP rH rL rN Z ∧ (a, showE G qP qU qH qG vT qV) ∈ Z ∧ (qU, (.inl (cy 0, shZ G 2, .inl (shP G)) : va_E)) ∈ Z ∧ (qG, refsE (cy 8) (shZ G 4) rG) ∈ Z ∧ ∀ k, k < shZ G 4 → (rG k, guestE (shG G k)) ∈ Z
theorem GC.mono {cy : Nat → ClassId} {G : LG} {x : Option Nat} {Z Z2 : va_W} (h : GC cy G x Z) (hm : ∀ z ∈ Z, z ∈ Z2) : GC cy G x Z2 := by
  obtain ⟨a, qV, qP, qU, qH, qG, vT, rP, rH, rG, rL, rN, h1, h2, h3, h4, h5, h6⟩ := h
  exact ⟨a, qV, qP, qU, qH, qG, vT, rP, rH, rG, rL, rN, h1, h2.mono hm, hm _ h3, hm _ h4, hm _ h5, fun k hk => hm _ (h6 k hk)⟩
theorem GC.EG {Ts : List Cond} {args : Array Value} {D : va_G} {cy : Nat → ClassId} {s U : State} {H : Heap} {Aw : Nat → Prop} {M : va_W} (hts : ∀ w ∈ Ts, w.before args s = true) (hin : ∀ w ∈ u_ws RJ0 TJ0 4, w ∈ Ts) (hK : va_K D vwCl (kTys cy) s) (hW : s.WarmedH U.vm) (hro : ∀ (x : Nat) (e : va_E), (x, e) ∈ M → ro D x e Aw H) (hE : EN D cy Aw U H) {G : LG} {x : Option Nat} (h : GC cy G x M) : ∃ a qV : Nat, x = some a ∧ EG D cy G a qV Aw U H := by
  obtain ⟨a, qV, qP, qU, qH, qG, vT, rP, rH, rG, rL, rN, h1, h2, h3, h4, h5, h6⟩ := h
  exact ⟨a, qV, h1, hE, qP, qU, qH, qG, vT, rP, rH, rG, rL, rN, GF_of hts hin hK hW hro h2 h3 h4 h5 h6⟩
/-- before[j] is a show or null -/
def BN (bf : Nat → Option Nat) (Z : va_W) : Prop := ∀ j, j < 9 → bf j = none ∨ ∃ (x : Nat) (fs : List Value), bf j = some x ∧ (x, (.inr (10, fs) : va_E)) ∈ Z
theorem BN.mono {bf : Nat → Option Nat} {Z Z2 : va_W} (h : BN bf Z) (hm : ∀ z ∈ Z, z ∈ Z2) : BN bf Z2 := fun j hj => (h j hj).elim Or.inl (fun ⟨x, fs, h1, h2⟩ => Or.inr ⟨x, fs, h1, hm _ h2⟩)
def shf (bf : Nat → Option Nat) (j : Nat) : Nat → Option Nat := fun i => if j < i then bf (i - 1) else bf i
theorem shf_step (bf : Nat → Option Nat) {j : Nat} (h : 0 < j) : va_up (shf bf j) j (bf (j - 1)) = shf bf (j - 1) := by
  funext i
  unfold va_up shf
  by_cases c : i = j
  · subst c; rw [if_pos rfl, if_pos (by omega)]
  · rw [if_neg c]
    show (if j < i then bf (i - 1) else bf i) = _
    by_cases c2 : j < i
    · rw [if_pos c2, if_pos (by omega)]
    · rw [if_neg c2, if_neg (by omega)]
theorem shf_at (bf : Nat → Option Nat) {j : Nat} (h : 0 < j) : shf bf j (j - 1) = bf (j - 1) := if_neg (by omega)
def bpush (q : Nat) (bf : Nat → Option Nat) : Nat → Option Nat := va_up (shf bf 0) 0 (some q)
theorem bpush_0 (q : Nat) (bf : Nat → Option Nat) : bpush q bf 0 = some q := by
  unfold bpush va_up
  exact if_pos rfl
theorem bpush_s (q : Nat) (bf : Nat → Option Nat) (j : Nat) : bpush q bf (j + 1) = bf j := by
  unfold bpush va_up
  rw [if_neg (by omega)]
  exact if_pos (by omega)
theorem nI_dec {j : Nat} (h : 0 < j) : nI (j - 1) = nI j + (-1 : Int32) := by
  rw [← show nI j - nI 1 = nI (j - 1) from pk_sub (by omega), Int32.sub_eq_add_neg]; rfl
/-- what the law does to a show's numbers -/
def hpush (G : LG) (hs : Nat → LG) : Nat → LG := fun j => match j with
  | 0 => G
  | j + 1 => hs j
def shTk (G : LG) (gg : Nat → Nat → Int32) : LG := (G.1, fun i => (match i with
  | 2 => shI G 2 + (1 : Int32)
  | i => shI G i), G.2.2.1, G.2.2.2.1, G.2.2.2.2.1, gg, G.2.2.2.2.2.2)
def shPu (G : LG) (p r : Nat) : LG := (G.1, G.2.1, upd (shP G) p (nI r), G.2.2.2)
def shCo (G : LG) (f : Nat → Int32) : LG := (fun i => (match i with
  | 4 => shZ G 4 + 1
  | i => shZ G i), G.2.1, G.2.2.1, G.2.2.2.1, G.2.2.2.2.1, fun k => if k = shZ G 4 then f else shG G k, G.2.2.2.2.2.2)
def shLe (G : LG) (n : Nat) : LG := (G.1, fun i => (match i with
  | 1 => nI n
  | i => shI G i), G.2.2)
def TKs : Nat → LG → (Nat → Int64) → LG → (Nat → Int64) → Prop
  | 0, G, va, G2, va2 => G2 = G ∧ va2 = va
  | t + 1, G, va, G2, va2 => ∃ res : (Nat → Int64) × (Nat → Nat → Int32), X10_ticks G va = some res ∧ TKs t (shTk G res.2) res.1 G2 va2
/-- two boxes open but the back: the law's first show -/
def lay2 : LG := (fun i => (match i with
  | 0 => 4
  | 1 => 3
  | 2 => 2
  | 3 => 1
  | _ => 0), fun i => (match i with
  | 0 => 9
  | 1 => 3
  | _ => 0), fun _ => 0, fun p _ => List.replicate 4 (lyC 2 p), fun _ _ => 0, fun _ _ => 0, fun _ => 0, fun _ => 0)
/-- what the numbers owe: R says that the class' numbers are those of the show G, and of the k shows hs before it -/
def NumOK (R : St → LG → (Nat → LG) → Nat → Prop) : Prop :=
  (∀ st G hs k, R st G hs k → Agr st G) ∧
  (∀ st G hs k, R st G hs k → (1 ≤ shZ G 2 ∧ shZ G 2 ≤ 5) ∧ shZ G 1 ≤ 8 ∧ shZ G 4 ≤ 20 ∧ St.filled st = nI 0) ∧
  (∀ st G hs k t va, R st G hs k → 1 ≤ t → t ≤ 4 → ∃ G2 va2 st2 x y, TKs t G va G2 va2 ∧ X10_paid G = some x ∧ X10_paid G2 = some y ∧ OP_pass st (nI t) (y - x) st2 ∧ R st2 G2 (hpush G hs) (min (k + 1) 8)) ∧
  (∀ st G hs k p r, R st G hs k → p + 1 < shZ G 2 → r ≤ shZ G 1 → ∃ st2, OP_pull st (nI p) (nI r) (shP G p) st2 ∧ R st2 (shPu G p r) (hpush G hs) (min (k + 1) 8)) ∧
  (∀ st G hs k p r, R st G hs k → p < 100 → r < 100 → (shZ G 2 ≤ p → OP_pull st (nI p) (nI r) (-2000000097) st) ∧ (p < shZ G 2 → shZ G 1 < r → OP_pull st (nI p) (nI r) (-2000000098) st) ∧ (p + 1 = shZ G 2 → r ≤ shZ G 1 → OP_pull st (nI p) (nI r) (-2000000099) st)) ∧
  (∀ st G hs k t w c, R st G hs k → t ≤ 9 → w ≤ 25 → c ≤ 999 → shZ G 4 < 20 → ∃ st2, OP_come st (nI t) (nI w) (nI c) (nI (shZ G 4)) st2 ∧ R st2 (shCo G (gNew (nI t) (nI w) (nI c))) (hpush G hs) (min (k + 1) 8)) ∧
  (∀ st G hs k t w c, R st G hs k → t < 100 → w < 100 → c ≤ 999 → (9 < t ∨ 25 < w → OP_come st (nI t) (nI w) (nI c) (-2000000098) st) ∧ (t ≤ 9 → w ≤ 25 → 20 ≤ shZ G 4 → OP_come st (nI t) (nI w) (nI c) (-2000000099) st)) ∧
  (∀ st G hs k n, R st G hs k → 1 ≤ n → n ≤ 20 → ∃ st2, OP_length st (nI n) (shI G 1) st2 ∧ R st2 (shLe G n) (hpush G hs) (min (k + 1) 8)) ∧
  (∀ st G hs k n, R st G hs k → n < 100 → (n = 0 ∨ 20 < n) → OP_length st (nI n) (-2000000098) st) ∧
  (∀ st G hs k, R st G hs (k + 1) → ∃ st2, OP_undo st (nI k) st2 ∧ R st2 (hs 0) (fun j => hs (j + 1)) k) ∧
  (∀ st G hs, R st G hs 0 → ∃ st2, OP_undo st (-1) st2 ∧ R st2 G hs 0) ∧
  (∀ st G hs k, R st G hs k → OP_pass st 51 (-2000000098) st) ∧
  (∀ st G hs k, R st G hs k → OP_load st 801 (-2000000098) st ∧ OP_stands st 0 (-1) 0 (-2000000097) st ∧ OP_sees st 4 0 0 (-2000000097) st ∧ OP_shown st (-1) 0 (-2000000097) st ∧ OP_why st 0 5 0 0 (-2000000097) st ∧ OP_price st 20 0 (-2000000097) st ∧ OP_bestPull st (-1) 0 (-2000000097) st ∧ OP_foretold st 101 0 (-2000000098) st) ∧
  (∀ st G hs k sd f b B, R st G hs k → TxR (zT sd) f b B → ∃ st2 B2, LTx (stW st f b) B (nI (zG sd)) st2 B2 ∧ R st2 (zL sd) (hpush G hs) (min (k + 1) 8))
