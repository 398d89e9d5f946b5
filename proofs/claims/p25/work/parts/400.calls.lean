/-! calls whose callee gets the front of the world -/
section KP
variable {p : Program} {l : Launch} {e : Env} {R : Room} {s : State} {m : MethodId} {args : Array Value} {below : List Frame} {meth : Method} {c : Code} {H : Heap} {locs : List Loc} {cells slots : Nat} {Q : State → Prop}
variable {cc : ByteArray} {pc mc ms : Nat} {ls : Array Slot} {rest st0 : List Value} {D : va_G} {A : Nat → Prop} {a : Array Value} {X Y w1 : va_W} {S : Type}
theorem kp_free (hD : va_D A (X ++ Y)) (hS : va_S A s.heap H locs) (hA : ∀ q, s.heap.size ≤ q → A q) : ∀ q, va_A X H.size q → A q := by
  intro q h
  rcases h with ⟨k, e, hk⟩ | h
  · exact hD.2 k (q, e) (by rw [List.getElem?_append_left (List.getElem?_eq_some_iff.mp hk).1]; exact hk)
  · exact hA q (Nat.le_trans hS.1 h)
theorem kp_sub (hP : va_P D vwCl (X ++ Y) H) (hD : va_D A (X ++ Y)) : va_P D vwCl X H ∧ va_D (fun _ => True) X := by
  have g : ∀ (k : Nat) (x : Nat × va_E), X[k]? = some x → (X ++ Y)[k]? = some x := fun k x hk => by rw [List.getElem?_append_left (List.getElem?_eq_some_iff.mp hk).1]; exact hk
  exact ⟨fun k q hk => hP k q (g k q hk), fun i j x y hi hj e => hD.1 i j x y (g i x hi) (g j y hj) e, fun _ _ _ => trivial⟩
theorem kp_join {H1 : Heap} (hP : va_P D vwCl (X ++ Y) H) (hD : va_D A (X ++ Y)) (hf : ∀ q, va_A X H.size q → A q) (hk : ∀ q : Nat, q < H.size → ¬ va_A X H.size q → H1[q]? = H[q]?) (hP1 : va_P D vwCl w1 H1) (hD1 : va_D (va_A X H.size) w1) : va_P D vwCl (w1 ++ Y) H1 ∧ va_D A (w1 ++ Y) := by
  have gY : ∀ (k : Nat) (x : Nat × va_E), Y[k]? = some x → (X ++ Y)[X.length + k]? = some x := fun k x hx => by rw [List.getElem?_append_right (by omega), show X.length + k - X.length = k by omega, hx]
  have nY : ∀ (k : Nat) (x : Nat × va_E), Y[k]? = some x → ¬ va_A X H.size x.1 := by
    intro k x hx q
    rcases q with ⟨j, e, hj⟩ | q
    · have h3 := hD.1 j (X.length + k) (x.1, e) x (by rw [List.getElem?_append_left (List.getElem?_eq_some_iff.mp hj).1]; exact hj) (gY k x hx) rfl
      have := (List.getElem?_eq_some_iff.mp hj).1
      omega
    · exact absurd (hP _ x (gY k x hx)).lt (Nat.not_lt.mpr q)
  refine ⟨fun k q h => ?_, fun i j x y hi hj e => ?_, fun k q h => ?_⟩
  · by_cases h1 : k < w1.length
    · rw [List.getElem?_append_left h1] at h; exact hP1 k q h
    · rw [List.getElem?_append_right (by omega)] at h
      have h2 := hP _ q (gY _ q h)
      exact h2.kept (hk q.1 h2.lt (nY _ q h))
  · by_cases h1 : i < w1.length <;> by_cases h2 : j < w1.length
    · rw [List.getElem?_append_left h1] at hi
      rw [List.getElem?_append_left h2] at hj
      exact hD1.1 i j x y hi hj e
    · rw [List.getElem?_append_left h1] at hi
      rw [List.getElem?_append_right (by omega)] at hj
      exact absurd (hD1.2 i x hi) (e ▸ nY _ y hj)
    · rw [List.getElem?_append_right (by omega)] at hi
      rw [List.getElem?_append_left h2] at hj
      exact absurd (hD1.2 j y hj) (e ▸ nY _ x hi)
    · rw [List.getElem?_append_right (by omega)] at hi
      rw [List.getElem?_append_right (by omega)] at hj
      have := hD.1 _ _ x y (gY _ x hi) (gY _ y hj) e
      omega
  · by_cases h1 : k < w1.length
    · rw [List.getElem?_append_left h1] at h; exact hf _ (hD1.2 k q h)
    · rw [List.getElem?_append_right (by omega)] at h
      exact hD.2 _ q (gY _ q h)
theorem kpStart {E : (Nat → Prop) → State → Heap → Prop} (hE : EOK E) (h0 : E A s s.heap) (hP : va_P D vwCl (X ++ Y) H) (hD : va_D A (X ++ Y)) (hS : va_S A s.heap H locs) (hA : ∀ q, s.heap.size ≤ q → A q) (av : List Value) :
    ∀ U : State, U.heap = H → s.WarmedH U.vm → kP E D av X H.size av.toArray U := by
  intro U hU hW
  obtain ⟨g1, g2⟩ := kp_sub hP hD
  refine ⟨rfl, by rw [hU], by rw [hU]; exact g1, g2, ?_⟩
  rw [hU]
  exact hE A _ s U s.heap H h0 (fun a h1 h2 => hS.2.1 a h1 h2) (kp_free hD hS hA) hW
theorem kp_i {v : Int32} (hr : va_Run p l e R s m args below meth c H locs cells slots mc ms (F0 m pc ls st0) rest (kQi D v w1 (va_A X H.size) a) (va_A X H.size)) (hP : va_P D vwCl (X ++ Y) H) (hD : va_D A (X ++ Y)) (hS : va_S A s.heap H locs) (hA : ∀ q, s.heap.size ≤ q → A q)
    (kk : ∀ (H1 : Heap) (locs1 : List Loc), va_P D vwCl (w1 ++ Y) H1 → va_D A (w1 ++ Y) → va_S A s.heap H1 locs1 → W p l e R s m args below meth c H1 locs1 (cells + mc) (slots + ms) Q (F0 m (pc + 3) ls (.int v :: rest))) : W p l e R s m args below meth c H locs cells slots Q (F0 m pc ls st0) := by
  refine va_calli hr hS (fun q _ h => kp_free hD hS hA q h) (kp_free hD hS hA) (fun r u t H1 locs1 ht hvm hw hB hz hk hS1 => ?_)
  obtain ⟨g1, g2⟩ := hB
  rw [ht] at g1
  subst hw
  obtain ⟨p1, p2⟩ := kp_join hP hD (kp_free hD hS hA) hk g1 g2
  exact kk H1 locs1 p1 p2 hS1
theorem kp_l {v : Int64} (hr : va_Run p l e R s m args below meth c H locs cells slots mc ms (F0 m pc ls st0) rest (kQl D v w1 (va_A X H.size) a) (va_A X H.size)) (hP : va_P D vwCl (X ++ Y) H) (hD : va_D A (X ++ Y)) (hS : va_S A s.heap H locs) (hA : ∀ q, s.heap.size ≤ q → A q)
    (kk : ∀ (H1 : Heap) (locs1 : List Loc), va_P D vwCl (w1 ++ Y) H1 → va_D A (w1 ++ Y) → va_S A s.heap H1 locs1 → W p l e R s m args below meth c H1 locs1 (cells + mc) (slots + ms) Q (F0 m (pc + 3) ls (.long v :: rest))) : W p l e R s m args below meth c H locs cells slots Q (F0 m pc ls st0) := by
  refine va_calll hr hS (fun q _ h => kp_free hD hS hA q h) (kp_free hD hS hA) (fun r u t H1 locs1 ht hvm hw hB hz hk hS1 => ?_)
  obtain ⟨g1, g2⟩ := hB
  rw [ht] at g1
  subst hw
  obtain ⟨p1, p2⟩ := kp_join hP hD (kp_free hD hS hA) hk g1 g2
  exact kk H1 locs1 p1 p2 hS1
theorem kp_v (hr : va_Run p l e R s m args below meth c H locs cells slots mc ms (F0 m pc ls st0) rest (kQv D w1 (va_A X H.size) a) (va_A X H.size)) (hP : va_P D vwCl (X ++ Y) H) (hD : va_D A (X ++ Y)) (hS : va_S A s.heap H locs) (hA : ∀ q, s.heap.size ≤ q → A q)
    (kk : ∀ (H1 : Heap) (locs1 : List Loc), va_P D vwCl (w1 ++ Y) H1 → va_D A (w1 ++ Y) → va_S A s.heap H1 locs1 → W p l e R s m args below meth c H1 locs1 (cells + mc) (slots + ms) Q (F0 m (pc + 3) ls rest)) : W p l e R s m args below meth c H locs cells slots Q (F0 m pc ls st0) := by
  refine va_callv hr hS (fun q _ h => kp_free hD hS hA q h) (kp_free hD hS hA) (fun u t H1 locs1 ht hvm hw hB hz hk hS1 => ?_)
  obtain ⟨g1, g2⟩ := hB
  rw [ht] at g1
  obtain ⟨p1, p2⟩ := kp_join hP hD (kp_free hD hS hA) hk g1 g2
  exact kk H1 locs1 p1 p2 hS1
theorem kp_E {px : S → Prop} {w : S → va_W} (hr : va_Run p l e R s m args below meth c H locs cells slots mc ms (F0 m pc ls st0) rest (kQE D px w (va_A X H.size) a) (va_A X H.size)) (hP : va_P D vwCl (X ++ Y) H) (hD : va_D A (X ++ Y)) (hS : va_S A s.heap H locs) (hA : ∀ q, s.heap.size ≤ q → A q)
    (kk : ∀ (u : S) (H1 : Heap) (locs1 : List Loc), px u → va_P D vwCl (w u ++ Y) H1 → va_D A (w u ++ Y) → va_S A s.heap H1 locs1 → W p l e R s m args below meth c H1 locs1 (cells + mc) (slots + ms) Q (F0 m (pc + 3) ls rest)) : W p l e R s m args below meth c H locs cells slots Q (F0 m pc ls st0) := by
  refine va_callv hr hS (fun q _ h => kp_free hD hS hA q h) (kp_free hD hS hA) (fun u t H1 locs1 ht hvm hw hB hz hk hS1 => ?_)
  obtain ⟨g1, g2⟩ := hB
  rw [ht] at g1
  obtain ⟨p1, p2⟩ := kp_join hP hD (kp_free hD hS hA) hk g1 g2
  exact kk u H1 locs1 hw p1 p2 hS1
theorem kp_R {px : S → Nat → Prop} {w : S → Nat → va_W} (hr : va_Run p l e R s m args below meth c H locs cells slots mc ms (F0 m pc ls st0) rest (kQR D px w (va_A X H.size) a) (va_A X H.size)) (hP : va_P D vwCl (X ++ Y) H) (hD : va_D A (X ++ Y)) (hS : va_S A s.heap H locs) (hA : ∀ q, s.heap.size ≤ q → A q)
    (kk : ∀ (u : S) (r : Nat) (H1 : Heap) (locs1 : List Loc), px u r → va_P D vwCl (w u r ++ Y) H1 → va_D A (w u r ++ Y) → va_S A s.heap H1 locs1 → W p l e R s m args below meth c H1 locs1 (cells + mc) (slots + ms) Q (F0 m (pc + 3) ls (.ref r :: rest))) : W p l e R s m args below meth c H locs cells slots Q (F0 m pc ls st0) := by
  refine va_callr hr hS (fun q _ h => kp_free hD hS hA q h) (kp_free hD hS hA) (fun u r t H1 locs1 ht hvm hw hB hz hk hS1 => ?_)
  obtain ⟨g0, g1, g2⟩ := hB
  rw [ht] at g1
  obtain ⟨p1, p2⟩ := kp_join hP hD (kp_free hD hS hA) hk g1 g2
  exact kk u r H1 locs1 g0 p1 p2 hS1
theorem kp_X {px : Int32 → S → Prop} {w : S → va_W} (hr : va_Run p l e R s m args below meth c H locs cells slots mc ms (F0 m pc ls st0) rest (kQX D px w (va_A X H.size) a) (va_A X H.size)) (hP : va_P D vwCl (X ++ Y) H) (hD : va_D A (X ++ Y)) (hS : va_S A s.heap H locs) (hA : ∀ q, s.heap.size ≤ q → A q)
    (kk : ∀ (v : Int32) (u : S) (H1 : Heap) (locs1 : List Loc), px v u → va_P D vwCl (w u ++ Y) H1 → va_D A (w u ++ Y) → va_S A s.heap H1 locs1 → W p l e R s m args below meth c H1 locs1 (cells + mc) (slots + ms) Q (F0 m (pc + 3) ls (.int v :: rest))) : W p l e R s m args below meth c H locs cells slots Q (F0 m pc ls st0) := by
  refine va_calli hr hS (fun q _ h => kp_free hD hS hA q h) (kp_free hD hS hA) (fun v u t H1 locs1 ht hvm hw hB hz hk hS1 => ?_)
  obtain ⟨g1, g2⟩ := hB
  rw [ht] at g1
  obtain ⟨p1, p2⟩ := kp_join hP hD (kp_free hD hS hA) hk g1 g2
  exact kk v u H1 locs1 hw p1 p2 hS1
end KP
