/-! a call's world, put together anew: what came back stands at the places is2 of ws2, what stayed at the places ns -/
def wchk (n2 : Nat) (is is2 ns : List Nat) : Bool := (List.range n2).all (fun k => is2.contains k || ns.contains k) && (ns.all (fun k => !is2.contains k) && is.all (fun k => is2.contains k))
theorem wmap_get {ws w : va_W} {is : List Nat} (h : is.map (fun i => ws[i]?) = w.map some) {j i : Nat} (hi : is[j]? = some i) {x : Nat × va_E} (hx : ws[i]? = some x) : w[j]? = some x := by
  have h1 : (is.map (fun i => ws[i]?))[j]? = some (some x) := by rw [List.getElem?_map, hi]; exact congrArg some hx
  rw [h, List.getElem?_map] at h1
  cases h2 : w[j]? with
  | none => rw [h2] at h1; cases h1
  | some y => rw [h2] at h1; exact congrArg some (Option.some.inj (Option.some.inj h1))
theorem wfold_map {α β : Type} (g : α → β) : ∀ l : List α, l.foldr (fun i acc => g i :: acc) [] = l.map g
  | [] => rfl
  | a :: l => by rw [List.foldr_cons, wfold_map g l, List.map_cons]
theorem wmap_same {ws ws2 : va_W} {ns : List Nat} (h : ns.map (fun i => ws2[i]?) = ns.foldr (fun i acc => ws[i]? :: acc) []) {k : Nat} (hk : k ∈ ns) : ws2[k]? = ws[k]? := by
  rw [wfold_map] at h
  obtain ⟨j, hj⟩ := List.getElem?_of_mem hk
  have h1 : (ns.map (fun i => ws2[i]?))[j]? = some (ws2[k]?) := by rw [List.getElem?_map, hj]; rfl
  rw [h, List.getElem?_map, hj] at h1
  exact (Option.some.inj h1).symm
theorem wjo_P {A0 : Nat → Prop} {D : va_G} {cl : List vw_C} {ws wc w1 ws2 : va_W} {H H1 : Heap} (hP : va_P D cl ws H) (hD : va_D A0 ws) (is is2 ns : List Nat) (hC : is.map (fun i => ws[i]?) = wc.map some) (hJ1 : is2.map (fun i => ws2[i]?) = w1.map some) (hJ2 : ns.map (fun i => ws2[i]?) = ns.foldr (fun i acc => ws[i]? :: acc) []) (n2 : Nat) (hn : ws2.length = n2) (hchk : wchk n2 is is2 ns = true)
    (hk : ∀ q : Nat, q < H.size → ¬ va_A wc H.size q → H1[q]? = H[q]?) (hF : ∀ q, va_A wc H.size q → A0 q) (hP1 : va_P D cl w1 H1) (hD1 : va_D (va_A wc H.size) w1) : va_P D cl ws2 H1 ∧ va_D A0 ws2 := by
  unfold wchk at hchk
  simp only [Bool.and_eq_true, List.all_eq_true, Bool.or_eq_true, List.contains_iff_mem, List.mem_range, Bool.not_eq_true', ← Bool.not_eq_true] at hchk
  obtain ⟨hcov, hdis, hsub⟩ := hchk
  have hcut : ∀ (k : Nat) (x : Nat × va_E), k ∈ ns → ws[k]? = some x → ¬ va_A wc H.size x.1 := by
    intro k x hk1 hx hq
    rcases hq with ⟨j, e, hj⟩ | hq
    · have h1 : (wc.map some)[j]? = some (some (x.1, e)) := by rw [List.getElem?_map, hj]; rfl
      rw [← hC, List.getElem?_map] at h1
      cases h2 : is[j]? with
      | none => rw [h2] at h1; cases h1
      | some i =>
        rw [h2] at h1
        have h3 : ws[i]? = some (x.1, e) := Option.some.inj h1
        have h4 := hD.1 _ _ _ _ hx h3 rfl
        rw [h4] at hk1
        exact hdis _ hk1 (hsub _ (List.mem_of_getElem? h2))
    · exact absurd (hP k x hx).lt (Nat.not_lt.mpr hq)
  have hsplit : ∀ (k : Nat) (x : Nat × va_E), ws2[k]? = some x → (∃ j : Nat, is2[j]? = some k ∧ w1[j]? = some x) ∨ (k ∈ ns ∧ ws[k]? = some x) := by
    intro k x hx
    have hlt : k < n2 := by rw [← hn]; exact (List.getElem?_eq_some_iff.mp hx).1
    rcases hcov k hlt with h | h
    · obtain ⟨j, hj⟩ := List.getElem?_of_mem h
      exact Or.inl ⟨j, hj, wmap_get hJ1 hj hx⟩
    · exact Or.inr ⟨h, by rw [← wmap_same hJ2 h]; exact hx⟩
  refine ⟨fun k x hx => ?_, fun i j p q hi hj e => ?_, fun k x hx => ?_⟩
  · rcases hsplit k x hx with ⟨j, -, h2⟩ | ⟨h1, h2⟩
    · exact hP1 _ _ h2
    · exact (hP k x h2).kept (hk _ (hP k x h2).lt (hcut k x h1 h2))
  · rcases hsplit i p hi with ⟨a, h1, h2⟩ | ⟨h1, h2⟩ <;> rcases hsplit j q hj with ⟨b, g1, g2⟩ | ⟨g1, g2⟩
    · have := hD1.1 _ _ _ _ h2 g2 e
      subst this
      rw [h1] at g1
      exact Option.some.inj g1
    · exact absurd (by rw [← e]; exact hD1.2 _ _ h2) (hcut _ _ g1 g2)
    · exact absurd (by rw [e]; exact hD1.2 _ _ g2) (hcut _ _ h1 h2)
    · exact hD.1 _ _ _ _ h2 g2 e
  · rcases hsplit k x hx with ⟨j, -, h2⟩ | ⟨h1, h2⟩
    · exact hF _ (hD1.2 _ _ h2)
    · exact hD.2 _ _ h2
section KD
variable {p : Program} {l : Launch} {e : Env} {R : Room} {s : State} {m : MethodId} {args : Array Value} {below : List Frame} {meth : Method} {c : Code} {H : Heap} {locs : List Loc} {cells slots : Nat} {Q : State → Prop}
variable {cc : ByteArray} {pc mc ms : Nat} {ls : Array Slot} {rest st0 : List Value} {D : va_G} {A : Nat → Prop} {a : Array Value} {ws wc w1 : va_W}
theorem kd_i {v : Int32} (ws2 : va_W) (hr : va_Run p l e R s m args below meth c H locs cells slots 0 0 (F0 m pc ls st0) rest (kQi D v w1 (va_A wc H.size) a) (va_A wc H.size)) (hP : va_P D vwCl ws H) (hD : va_D A ws) (hS : va_S A s.heap H locs) (hA : ∀ q, s.heap.size ≤ q → A q) (is ns : List Nat) (hC : is.map (fun i => ws[i]?) = wc.map some) (hJ1 : is.map (fun i => ws2[i]?) = w1.map some) (hJ2 : ns.map (fun i => ws2[i]?) = ns.foldr (fun i acc => ws[i]? :: acc) []) (n2 : Nat) (hn : ws2.length = n2) (hchk : wchk n2 is is ns = true)
    (kk : ∀ (H1 : Heap) (locs1 : List Loc), va_P D vwCl ws2 H1 → va_D A ws2 → va_S A s.heap H1 locs1 → W p l e R s m args below meth c H1 locs1 cells slots Q (F0 m (pc + 3) ls (.int v :: rest))) : W p l e R s m args below meth c H locs cells slots Q (F0 m pc ls st0) := by
  refine va_calli hr hS (fun q _ h => va_free hD hS hA is hC q h) (va_free hD hS hA is hC) (fun r u t H1 locs1 ht hvm hw hB hz hk hS1 => ?_)
  obtain ⟨g1, g2⟩ := hB
  rw [ht] at g1
  subst hw
  obtain ⟨p1, p2⟩ := wjo_P hP hD is is ns hC hJ1 hJ2 n2 hn hchk hk (va_free hD hS hA is hC) g1 g2
  exact kk H1 locs1 p1 p2 hS1
theorem kd_l {v : Int64} (ws2 : va_W) (hr : va_Run p l e R s m args below meth c H locs cells slots 0 0 (F0 m pc ls st0) rest (kQl D v w1 (va_A wc H.size) a) (va_A wc H.size)) (hP : va_P D vwCl ws H) (hD : va_D A ws) (hS : va_S A s.heap H locs) (hA : ∀ q, s.heap.size ≤ q → A q) (is ns : List Nat) (hC : is.map (fun i => ws[i]?) = wc.map some) (hJ1 : is.map (fun i => ws2[i]?) = w1.map some) (hJ2 : ns.map (fun i => ws2[i]?) = ns.foldr (fun i acc => ws[i]? :: acc) []) (n2 : Nat) (hn : ws2.length = n2) (hchk : wchk n2 is is ns = true)
    (kk : ∀ (H1 : Heap) (locs1 : List Loc), va_P D vwCl ws2 H1 → va_D A ws2 → va_S A s.heap H1 locs1 → W p l e R s m args below meth c H1 locs1 cells slots Q (F0 m (pc + 3) ls (.long v :: rest))) : W p l e R s m args below meth c H locs cells slots Q (F0 m pc ls st0) := by
  refine va_calll hr hS (fun q _ h => va_free hD hS hA is hC q h) (va_free hD hS hA is hC) (fun r u t H1 locs1 ht hvm hw hB hz hk hS1 => ?_)
  obtain ⟨g1, g2⟩ := hB
  rw [ht] at g1
  subst hw
  obtain ⟨p1, p2⟩ := wjo_P hP hD is is ns hC hJ1 hJ2 n2 hn hchk hk (va_free hD hS hA is hC) g1 g2
  exact kk H1 locs1 p1 p2 hS1
theorem kd_f {v : UInt32} (ws2 : va_W) (hr : va_Run p l e R s m args below meth c H locs cells slots 0 0 (F0 m pc ls st0) rest (kQf D v w1 (va_A wc H.size) a) (va_A wc H.size)) (hP : va_P D vwCl ws H) (hD : va_D A ws) (hS : va_S A s.heap H locs) (hA : ∀ q, s.heap.size ≤ q → A q) (is ns : List Nat) (hC : is.map (fun i => ws[i]?) = wc.map some) (hJ1 : is.map (fun i => ws2[i]?) = w1.map some) (hJ2 : ns.map (fun i => ws2[i]?) = ns.foldr (fun i acc => ws[i]? :: acc) []) (n2 : Nat) (hn : ws2.length = n2) (hchk : wchk n2 is is ns = true)
    (kk : ∀ (H1 : Heap) (locs1 : List Loc), va_P D vwCl ws2 H1 → va_D A ws2 → va_S A s.heap H1 locs1 → W p l e R s m args below meth c H1 locs1 cells slots Q (F0 m (pc + 3) ls (.float v :: rest))) : W p l e R s m args below meth c H locs cells slots Q (F0 m pc ls st0) := by
  refine va_callf hr hS (fun q _ h => va_free hD hS hA is hC q h) (va_free hD hS hA is hC) (fun r u t H1 locs1 ht hvm hw hB hz hk hS1 => ?_)
  obtain ⟨g1, g2⟩ := hB
  rw [ht] at g1
  subst hw
  obtain ⟨p1, p2⟩ := wjo_P hP hD is is ns hC hJ1 hJ2 n2 hn hchk hk (va_free hD hS hA is hC) g1 g2
  exact kk H1 locs1 p1 p2 hS1
theorem kd_v  (ws2 : va_W) (hr : va_Run p l e R s m args below meth c H locs cells slots 0 0 (F0 m pc ls st0) rest (kQv D w1 (va_A wc H.size) a) (va_A wc H.size)) (hP : va_P D vwCl ws H) (hD : va_D A ws) (hS : va_S A s.heap H locs) (hA : ∀ q, s.heap.size ≤ q → A q) (is ns : List Nat) (hC : is.map (fun i => ws[i]?) = wc.map some) (hJ1 : is.map (fun i => ws2[i]?) = w1.map some) (hJ2 : ns.map (fun i => ws2[i]?) = ns.foldr (fun i acc => ws[i]? :: acc) []) (n2 : Nat) (hn : ws2.length = n2) (hchk : wchk n2 is is ns = true)
    (kk : ∀ (H1 : Heap) (locs1 : List Loc), va_P D vwCl ws2 H1 → va_D A ws2 → va_S A s.heap H1 locs1 → W p l e R s m args below meth c H1 locs1 cells slots Q (F0 m (pc + 3) ls (rest))) : W p l e R s m args below meth c H locs cells slots Q (F0 m pc ls st0) := by
  refine va_callv hr hS (fun q _ h => va_free hD hS hA is hC q h) (va_free hD hS hA is hC) (fun u t H1 locs1 ht hvm hw hB hz hk hS1 => ?_)
  obtain ⟨g1, g2⟩ := hB
  rw [ht] at g1
  obtain ⟨p1, p2⟩ := wjo_P hP hD is is ns hC hJ1 hJ2 n2 hn hchk hk (va_free hD hS hA is hC) g1 g2
  exact kk H1 locs1 p1 p2 hS1
end KD
