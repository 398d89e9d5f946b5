/-! pure programs: a step that may fail is an Option; each word has a row that opens it -/
def nm {α β : Type} (x : α) (k : α → β) : β := k x
theorem nm_o {α β : Type} {x : α} {k : α → β} {r : β} (h : nm x k = r) : ∀ v, v = x → k v = r := fun v e => by rw [e]; exact h
def ld {α β : Type} (a : Nat → α) (N : Nat) (i : Int32) (k : α → Option β) : Option β := if i < 0 ∨ N ≤ i.toNatClampNeg then none else k (a i.toNatClampNeg)
theorem ld_o {α β : Type} {a : Nat → α} {N : Nat} {i : Int32} {k : α → Option β} {r : β} (h : ld a N i k = some r) : vp_in i N ∧ ∀ v, v = a i.toNatClampNeg → k v = some r := by
  unfold ld at h
  by_cases c : i < 0 ∨ N ≤ i.toNatClampNeg
  · rw [if_pos c] at h; cases h
  · rw [if_neg c] at h; exact ⟨c, fun v e => by rw [e]; exact h⟩
def st {α β : Type} (N : Nat) (i : Int32) (a : Nat → α) (k : (Nat → α) → Option β) : Option β := if i < 0 ∨ N ≤ i.toNatClampNeg then none else k a
theorem st_o {α β : Type} {a : Nat → α} {N : Nat} {i : Int32} {k : (Nat → α) → Option β} {r : β} (h : st N i a k = some r) : vp_in i N ∧ ∀ v, v = a → k v = some r := by
  unfold st at h
  by_cases c : i < 0 ∨ N ≤ i.toNatClampNeg
  · rw [if_pos c] at h; cases h
  · rw [if_neg c] at h; exact ⟨c, fun v e => by rw [e]; exact h⟩
/-- go on if c holds, else fail -/
def ck {β : Type} (c : Prop) [Decidable c] (k : Option β) : Option β := if c then k else none
theorem ck_o {β : Type} {c : Prop} [Decidable c] {k : Option β} {r : β} (h : ck c k = some r) : c ∧ k = some r := by
  unfold ck at h
  by_cases q : c
  · rw [if_pos q] at h; exact ⟨q, h⟩
  · rw [if_neg q] at h; cases h
def bn {α β : Type} (x : Option α) (k : α → Option β) : Option β := x.bind k
theorem bn_o {α β : Type} {x : Option α} {k : α → Option β} {r : β} (h : bn x k = some r) : ∃ z, x = some z ∧ k z = some r := by
  unfold bn at h
  cases x with
  | none => cases h
  | some z => exact ⟨z, rfl, h⟩
theorem if_p {α : Type} {c : Prop} [Decidable c] {a b r : α} (h : (if c then a else b) = r) (q : c) : a = r := by rw [if_pos q] at h; exact h
theorem if_n {α : Type} {c : Prop} [Decidable c] {a b r : α} (h : (if c then a else b) = r) (q : ¬ c) : b = r := by rw [if_neg q] at h; exact h
/-- 'if not c then a else b', as a branch on 'not' gives it -/
theorem so_o {α : Type} {x r : α} (h : some x = some r) : r = x := (Option.some.inj h).symm
/-- a list of cells with some of them set anew, by their places; what is left over comes behind -/
def wset : va_W → List Nat → va_W → va_W
  | ws, i :: is, x :: xs => wset (ws.set i x) is xs
  | ws, _, _ => ws
def wjn (ws : va_W) (is : List Nat) (w1 : va_W) : va_W := wset ws is w1 ++ w1.drop is.length
theorem wset_len : ∀ (is : List Nat) (ws xs : va_W), (wset ws is xs).length = ws.length
  | [], ws, xs => by cases xs <;> rfl
  | i :: is, ws, [] => rfl
  | i :: is, ws, x :: xs => by
    show (wset (ws.set i x) is xs).length = _
    rw [wset_len is, List.length_set]
theorem wset_get : ∀ (is : List Nat) (ws xs : va_W) (k : Nat) (x : Nat × va_E), is.length ≤ xs.length → (wset ws is xs)[k]? = some x → (∃ j : Nat, is[j]? = some k ∧ xs[j]? = some x) ∨ (k ∉ is ∧ ws[k]? = some x)
  | [], ws, xs, k, x, _, h => Or.inr ⟨List.not_mem_nil, by cases xs <;> exact h⟩
  | i :: is, ws, [], k, x, hl, h => absurd hl (by simp)
  | i :: is, ws, y :: ys, k, x, hl, h => by
    rcases wset_get is (ws.set i y) ys k x (by simpa using hl) h with ⟨j, h1, h2⟩ | ⟨h1, h2⟩
    · exact Or.inl ⟨j + 1, h1, h2⟩
    · by_cases e : i = k
      · subst e
        rw [List.getElem?_set] at h2
        by_cases hlt : i < ws.length
        · simp [hlt] at h2
          exact Or.inl ⟨0, rfl, by simp [h2]⟩
        · simp [hlt] at h2
      · rw [List.getElem?_set_ne e] at h2
        exact Or.inr ⟨fun q => (List.mem_cons.mp q).elim (fun q => e q.symm) h1, h2⟩
theorem wjn_get {ws w1 : va_W} {is : List Nat} {k : Nat} {x : Nat × va_E} (hl : is.length ≤ w1.length) (h : (wjn ws is w1)[k]? = some x) : (∃ j : Nat, is[j]? = some k ∧ w1[j]? = some x) ∨ (k ∉ is ∧ ws[k]? = some x) ∨ (∃ j : Nat, k = ws.length + j ∧ w1[is.length + j]? = some x) := by
  unfold wjn at h
  by_cases c : k < (wset ws is w1).length
  · rw [List.getElem?_append_left c] at h
    rcases wset_get is ws w1 k x hl h with q | q
    · exact Or.inl q
    · exact Or.inr (Or.inl q)
  · rw [List.getElem?_append_right (Nat.le_of_not_lt c), wset_len, List.getElem?_drop] at h
    rw [wset_len] at c
    exact Or.inr (Or.inr ⟨k - ws.length, by omega, h⟩)
theorem wjn_P {A0 : Nat → Prop} {D : va_G} {cl : List vw_C} {ws wc w1 : va_W} {H H1 : Heap} (hP : va_P D cl ws H) (hD : va_D A0 ws) (is : List Nat) (hC : is.map (fun i => ws[i]?) = wc.map some) (hl : is.length ≤ w1.length)
    (hk : ∀ q : Nat, q < H.size → ¬ va_A wc H.size q → H1[q]? = H[q]?) (hF : ∀ q, va_A wc H.size q → A0 q) (hP1 : va_P D cl w1 H1) (hD1 : va_D (va_A wc H.size) w1) : va_P D cl (wjn ws is w1) H1 ∧ va_D A0 (wjn ws is w1) := by
  have hcut : ∀ (k : Nat) (x : Nat × va_E), k ∉ is → ws[k]? = some x → ¬ va_A wc H.size x.1 := by
    intro k x hk1 hx hq
    rcases hq with ⟨j, e, hj⟩ | hq
    · have h1 : (wc.map some)[j]? = some (some (x.1, e)) := by rw [List.getElem?_map, hj]; rfl
      rw [← hC, List.getElem?_map] at h1
      cases h2 : is[j]? with
      | none => rw [h2] at h1; cases h1
      | some i =>
        rw [h2] at h1
        have h3 : ws[i]? = some (x.1, e) := Option.some.inj h1
        have h4 := hD.1 _ _ _ _ hx h3 rfl
        rw [h4] at hk1
        exact hk1 (List.mem_of_getElem? h2)
    · exact absurd (hP k x hx).lt (Nat.not_lt.mpr hq)
  refine ⟨fun k x hx => ?_, fun i j p q hi hj e => ?_, fun k x hx => ?_⟩
  · rcases wjn_get hl hx with ⟨j, -, h2⟩ | ⟨h1, h2⟩ | ⟨j, -, h2⟩
    · exact hP1 _ _ h2
    · exact (hP k x h2).kept (hk _ (hP k x h2).lt (hcut k x h1 h2))
    · exact hP1 _ _ h2
  · rcases wjn_get hl hi with ⟨a, h1, h2⟩ | ⟨h1, h2⟩ | ⟨a, h1, h2⟩ <;> rcases wjn_get hl hj with ⟨b, g1, g2⟩ | ⟨g1, g2⟩ | ⟨b, g1, g2⟩
    · have := hD1.1 _ _ _ _ h2 g2 e
      subst this
      rw [h1] at g1
      exact Option.some.inj g1
    · exact absurd (by rw [← e]; exact hD1.2 _ _ h2) (hcut _ _ g1 g2)
    · have := hD1.1 _ _ _ _ h2 g2 e
      have h5 := (List.getElem?_eq_some_iff.mp h1).1
      omega
    · exact absurd (by rw [e]; exact hD1.2 _ _ g2) (hcut _ _ h1 h2)
    · exact hD.1 _ _ _ _ h2 g2 e
    · exact absurd (by rw [e]; exact hD1.2 _ _ g2) (hcut _ _ h1 h2)
    · have := hD1.1 _ _ _ _ h2 g2 e
      have h5 := (List.getElem?_eq_some_iff.mp g1).1
      omega
    · exact absurd (by rw [← e]; exact hD1.2 _ _ h2) (hcut _ _ g1 g2)
    · have := hD1.1 _ _ _ _ h2 g2 e
      omega
  · rcases wjn_get hl hx with ⟨j, -, h2⟩ | ⟨h1, h2⟩ | ⟨j, -, h2⟩
    · exact hF _ (hD1.2 _ _ h2)
    · exact hD.2 _ _ h2
    · exact hF _ (hD1.2 _ _ h2)
