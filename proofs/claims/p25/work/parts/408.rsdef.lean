/-! randomShow: what it draws and what it writes, as plain definitions; the walk's context -/
def rsC (op : Bool) (s : Int32) : Int32 × Int32 := if op = true ∧ rnV s % 2 = 0 then (46, rnS s) else if op = true then (nI (97 + rnV (rnS s) % 4), rnS (rnS s)) else (nI (97 + rnV s % 4), rnS s)
def rsL (op : Bool) : Nat → Int32 → List Int32 × Int32
  | 0, s => ([], s)
  | x + 1, s => ((rsL op x s).1 ++ [(rsC op (rsL op x s).2).1], (rsC op (rsL op x s).2).2)
def rsR (op : Bool) (w : Nat) : Nat → Int32 → Int32
  | 0, s => s
  | y + 1, s => (rsL op w (rsR op w y s)).2
def rsO (n p : Nat) : Bool := decide (p + 1 < n)
def rsP (n w hh : Nat) : Nat → Int32 → Int32
  | 0, s => s
  | p + 1, s => rsR (rsO n p) w hh (rsP n w hh p s)
/-- the line y of the plane p -/
def rsT (n w hh : Nat) (s : Int32) (p y : Nat) : List Int32 := (rsL (rsO n p) w (rsR (rsO n p) w y (rsP n w hh p s))).1
/-- .. where the planes below p, and p's lines below y, are told -/
def rsX (n w hh : Nat) (s : Int32) (p y q j : Nat) : List Int32 := if q < p ∨ (q = p ∧ j < y) then rsT n w hh s q j else List.replicate w (lyC n q)
def rwT (n w hh : Nat) (s : Int32) (p : Nat) : Nat → List Int32
  | 0 => []
  | y + 1 => rwT n w hh s p y ++ [32] ++ rsT n w hh s p y
def plT (n w hh : Nat) (s : Int32) : Nat → List Int32
  | 0 => []
  | p + 1 => plT n w hh s p ++ [112, 108, 97, 110, 101] ++ rwT n w hh s p hh ++ [59]
def hlS : Nat → Int32 → Int32
  | 0, s => s
  | k + 1, s => rnS (rnS (hlS k s))
def hlX (w : Nat) (s : Int32) (k : Nat) : Nat := rnV (hlS k s) % w
def hlY (hh : Nat) (s : Int32) (k : Nat) : Nat := rnV (rnS (hlS k s)) % hh
def pr2 (x y : Nat) : Nat → Nat := fun j => if j = 0 then x else y
def hlT (w hh : Nat) (s : Int32) : Nat → List Int32
  | 0 => []
  | k + 1 => hlT w hh s k ++ [104, 111, 108, 101] ++ numT (pr2 (hlX w s k) (hlY hh s k)) 2 ++ [59]
def gsS : Nat → Int32 → Int32
  | 0, s => s
  | k + 1, s => rnS (rnS (rnS (gsS k s)))
def gsH (s : Int32) (k : Nat) : Nat := rnV (gsS k s) % 6
def gsW (s : Int32) (k : Nat) : Nat := rnV (rnS (gsS k s)) % 5
def gsM (s : Int32) (k : Nat) : Nat := rnV (rnS (rnS (gsS k s))) % 30
def gsT (s : Int32) : Nat → List Int32
  | 0 => []
  | k + 1 => gsT s k ++ [118, 105, 101, 119, 101, 114] ++ numT (fun _ => gsH s k) 1 ++ ([] ++ [32] ++ [nI (97 + gsW s k)]) ++ ([] : List Int32) ++ numT (fun _ => gsM s k) 1 ++ [59]
theorem rsC_asc (op : Bool) (s : Int32) : asc (rsC op s).1 := by
  unfold rsC
  split
  · exact (show asc (46 : Int32) from ⟨by decide, by decide⟩)
  · split
    · exact asc_d (k := 49 + rnV (rnS s) % 4) (by omega) |> fun h => by rw [show 97 + rnV (rnS s) % 4 = 48 + (49 + rnV (rnS s) % 4) by omega]; exact h
    · exact asc_d (k := 49 + rnV s % 4) (by omega) |> fun h => by rw [show 97 + rnV s % 4 = 48 + (49 + rnV s % 4) by omega]; exact h
theorem rsL_asc (op : Bool) : ∀ (x : Nat) (s : Int32), ascS (rsL op x s).1
  | 0, s => fun y hy => absurd hy List.not_mem_nil
  | x + 1, s => ascS_app (rsL_asc op x s) (fun y hy => by rw [List.mem_singleton.mp hy]; exact rsC_asc op _)
theorem rsL_len (op : Bool) : ∀ (x : Nat) (s : Int32), (rsL op x s).1.length = x
  | 0, s => rfl
  | x + 1, s => by
    show ((rsL op x s).1 ++ [_]).length = x + 1
    rw [List.length_append, rsL_len op x s]; rfl
theorem rwT_len (n w hh : Nat) (s : Int32) (p : Nat) : ∀ y, (rwT n w hh s p y).length = (w + 1) * y
  | 0 => rfl
  | y + 1 => by
    rw [rwT, List.length_append, List.length_append, rwT_len n w hh s p y, rsT, rsL_len, Nat.mul_succ]
    show (w + 1) * y + 1 + w = _
    omega
theorem plT_len {n w hh : Nat} (hw : w ≤ 6) (hh4 : hh ≤ 4) (s : Int32) : ∀ p, (plT n w hh s p).length ≤ 34 * p
  | 0 => Nat.le_refl _
  | p + 1 => by
    have h := plT_len (n := n) hw hh4 s p
    have h2 : (w + 1) * hh ≤ 7 * 4 := Nat.mul_le_mul (by omega) hh4
    rw [plT, List.length_append, List.length_append, List.length_append, rwT_len]
    show (plT n w hh s p).length + 5 + (w + 1) * hh + 1 ≤ _
    omega
theorem hlT_len (w hh : Nat) (s : Int32) : ∀ k, (hlT w hh s k).length ≤ 15 * k
  | 0 => Nat.le_refl _
  | k + 1 => by
    have h := hlT_len w hh s k
    have h2 := numT_len (pr2 (hlX w s k) (hlY hh s k)) 2
    rw [hlT, List.length_append, List.length_append, List.length_append]
    show (hlT w hh s k).length + 4 + _ + 1 ≤ _
    omega
theorem gsT_len (s : Int32) : ∀ k, (gsT s k).length ≤ 19 * k
  | 0 => Nat.le_refl _
  | k + 1 => by
    have h := gsT_len s k
    have h2 := numT_len (fun _ => gsH s k) 1
    have h3 := numT_len (fun _ => gsM s k) 1
    rw [gsT, List.length_append, List.length_append, List.length_append, List.length_append, List.length_append, List.length_append]
    show (gsT s k).length + 6 + _ + 2 + 0 + _ + 1 ≤ _
    omega
theorem rsX_next {n w hh : Nat} {s : Int32} {p q j : Nat} (h : j < hh) : rsX n w hh s p hh q j = rsX n w hh s (p + 1) 0 q j := by
  unfold rsX
  by_cases c : q < p ∨ (q = p ∧ j < hh)
  · rw [if_pos c, if_pos (by omega)]
  · rw [if_neg c, if_neg (by omega)]
theorem rsX_other {n w hh : Nat} {s : Int32} {p y q j : Nat} (h : ¬ (q = p ∧ j = y)) : rsX n w hh s p (y + 1) q j = rsX n w hh s p y q j := by
  unfold rsX
  by_cases c : q < p ∨ (q = p ∧ j < y)
  · rw [if_pos c, if_pos (by omega)]
  · rw [if_neg c, if_neg (by omega)]
theorem rsX_this {n w hh : Nat} {s : Int32} {p y : Nat} : rsX n w hh s p (y + 1) p y = rsT n w hh s p y := if_pos (Or.inr ⟨rfl, Nat.lt_succ_self y⟩)
/-- the planes' lines stand in the rows gr -/
def rsG (cy : Nat → ClassId) (n w hh : Nat) (s : Int32) (p y : Nat) (gr : Nat → Nat → Option Nat) (G : va_W) : Prop := ∀ q, q < n → ∀ j, j < hh → ∃ r : Nat, gr q j = some r ∧ strM cy (rsX n w hh s p y q j) r G
theorem rsG.mono {cy : Nat → ClassId} {n w hh : Nat} {s : Int32} {p y : Nat} {gr : Nat → Nat → Option Nat} {G G2 : va_W} (h : rsG cy n w hh s p y gr G) (hm : ∀ z ∈ G, z ∈ G2) : rsG cy n w hh s p y gr G2 := fun q hq j hj => by
  obtain ⟨r, h1, h2⟩ := h q hq j hj
  exact ⟨r, h1, h2.mono hm⟩
theorem rsG.put {cy : Nat → ClassId} {n w hh : Nat} {s : Int32} {p y ln : Nat} {gr : Nat → Nat → Option Nat} {G : va_W} (h : rsG cy n w hh s p y gr G) (hl : strM cy (rsT n w hh s p y) ln G) : rsG cy n w hh s p (y + 1) (fun q => if q = p then va_up (gr p) y (some ln) else gr q) G := by
  intro q hq j hj
  by_cases c : q = p ∧ j = y
  · obtain ⟨rfl, rfl⟩ := c
    exact ⟨ln, by show (if q = q then va_up (gr q) j (some ln) else gr q) j = some ln; rw [if_pos rfl]; exact if_pos rfl, by rw [rsX_this]; exact hl⟩
  · obtain ⟨r, h1, h2⟩ := h q hq j hj
    refine ⟨r, ?_, by rw [rsX_other c]; exact h2⟩
    show (if q = p then va_up (gr p) y (some ln) else gr q) j = some r
    by_cases c2 : q = p
    · rw [if_pos c2]
      show (if j = y then _ else gr p j) = _
      rw [if_neg (fun z => c ⟨c2, z⟩), ← c2]; exact h1
    · rw [if_neg c2]; exact h1
theorem rsG.next {cy : Nat → ClassId} {n w hh : Nat} {s : Int32} {p : Nat} {gr : Nat → Nat → Option Nat} {G : va_W} (h : rsG cy n w hh s p hh gr G) : rsG cy n w hh s (p + 1) 0 gr G := fun q hq j hj => by
  obtain ⟨r, h1, h2⟩ := h q hq j hj
  exact ⟨r, h1, by rw [← rsX_next hj]; exact h2⟩
theorem stW_stW (st : St) (f f2 : Int32) (b b2 : Nat → Int32) : stW (stW st f b) f2 b2 = stW st f2 b2 := rfl
/-- the environment, the room and the context of randomShow's walk -/
def EZ (D : va_G) (cy : Nat → ClassId) (ad : Nat → Nat) (A : Nat → Prop) (U : State) (H : Heap) : Prop := EY D cy ad A U H ∧ EW D cy A U H ∧ EH D cy A U H
theorem EZ_ok (D : va_G) (cy : Nat → ClassId) (ad : Nat → Nat) : EOK (EZ D cy ad) := fun A B s U H0 H h hq hAB hW => ⟨EY_ok D cy ad A B s U H0 H h.1 hq hAB hW, EW_ok D cy A B s U H0 H h.2.1 hq hAB hW, EH_ok D cy A B s U H0 H h.2.2 hq hAB hW⟩
def RC (p : Program) (s : State) (m : MethodId) (c : Code) (args : Array Value) (D : va_G) (cy : Nat → ClassId) (ad : Nat → Nat) (A : Nat → Prop) : Prop :=
  p.tables.exec = Jvm.exec ∧ c.code = cL_randomShow ∧ c.maxLocals = 10 ∧ s.vm.findClass RL = some m.cls ∧ (∀ w ∈ wsL_randomShow, w.before args s = true) ∧ EZ D cy ad A s s.heap ∧ ∀ q, s.heap.size ≤ q → A q
theorem char_asc {x : Int32} (h : asc x) : vp_nar .char x = x := by
  obtain ⟨c, hc, rfl⟩ := asc_nI h
  have h9 : Value.int (vp_nar .char (nI c)) = Value.int (nI c) := (pk_charN (q := c) (by omega)).1
  exact Value.int.inj h9
