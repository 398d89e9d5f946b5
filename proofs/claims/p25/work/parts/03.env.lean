/-! the environment of a method: the classes, the words that the lists of words do not carry, the String constants, the statics -/
abbrev kTys (cy : Nat → ClassId) : List (ClassId × FieldType) := [(cy 0, .int), (cy 1, .byte), (cy 2, .long), (cy 3, .object "PeepBox$Show"), (cy 4, .array .int), (cy 5, .boolean), (cy 6, .object "java/lang/String"), (cy 7, .array (.object "java/lang/String")), (cy 8, .object "PeepBoxLaw$Guest"), (cy 9, .object "PeepBoxLaw$Show")]
def kNest : List (String × Nat × MethodName × String) := [(RX6, 11, yX3_init, "PeepBox"), (RX6, 18, yX4_init, "PeepBox"), (RX6, 28, yX5_init, "PeepBox"), (RX0, 42, yX2_init, "PeepBox"), (RX0, 80, yX6_quotient, "PeepBox"), (RX2, 48, yX6_limited, "PeepBox"), (RX2, 52, yX6_quotient, "PeepBox"), (RX3, 11, yX4_init, "PeepBox"), (RX4, 9, yX0_init, "PeepBox"), (RX4, 18, yX1_init, "PeepBox"), (RX5, 60, yX6_quotient, "PeepBox"), (RX5, 86, yX6_limited, "PeepBox"), (RL, 107, yX10_init, "PeepBoxLaw")]
def kStr : List (String × Nat × String × List Int32) := [("PeepBox", 78, "not a length of the buffer", [110, 111, 116, 32, 97, 32, 108, 101, 110, 103, 116, 104, 32, 111, 102, 32, 116, 104, 101, 32, 98, 117, 102, 102, 101, 114]), ("PeepBox", 140, "no such number of the state", [110, 111, 32, 115, 117, 99, 104, 32, 110, 117, 109, 98, 101, 114, 32, 111, 102, 32, 116, 104, 101, 32, 115, 116, 97, 116, 101]), ("PeepBox", 163, "no such number of a plane", [110, 111, 32, 115, 117, 99, 104, 32, 110, 117, 109, 98, 101, 114, 32, 111, 102, 32, 97, 32, 112, 108, 97, 110, 101]), ("PeepBox", 183, "no such number of a hole", [110, 111, 32, 115, 117, 99, 104, 32, 110, 117, 109, 98, 101, 114, 32, 111, 102, 32, 97, 32, 104, 111, 108, 101]), ("PeepBox", 238, "the back can't be pulled", [116, 104, 101, 32, 98, 97, 99, 107, 32, 99, 97, 110, 39, 116, 32, 98, 101, 32, 112, 117, 108, 108, 101, 100]), ("PeepBox", 244, "there is no room for one more viewer", [116, 104, 101, 114, 101, 32, 105, 115, 32, 110, 111, 32, 114, 111, 111, 109, 32, 102, 111, 114, 32, 111, 110, 101, 32, 109, 111, 114, 101, 32, 118, 105, 101, 119, 101, 114]), ("PeepBox", 270, "no such plane", [110, 111, 32, 115, 117, 99, 104, 32, 112, 108, 97, 110, 101]), ("PeepBox", 273, "no such hole", [110, 111, 32, 115, 117, 99, 104, 32, 104, 111, 108, 101]), ("PeepBox", 275, "no such viewer", [110, 111, 32, 115, 117, 99, 104, 32, 118, 105, 101, 119, 101, 114]), ("PeepBox", 277, "no such cell", [110, 111, 32, 115, 117, 99, 104, 32, 99, 101, 108, 108]), ("PeepBox", 279, "out of range", [111, 117, 116, 32, 111, 102, 32, 114, 97, 110, 103, 101]), ("PeepBox$Setup", 92, "box", [98, 111, 120]), ("PeepBox$Setup", 107, "plane", [112, 108, 97, 110, 101]), ("PeepBox$Setup", 112, "hole", [104, 111, 108, 101]), ("PeepBox$Setup", 117, "reach", [114, 101, 97, 99, 104]), ("PeepBox$Setup", 122, "length", [108, 101, 110, 103, 116, 104]), ("PeepBox$Setup", 127, "viewer", [118, 105, 101, 119, 101, 114]), ("PeepBox$Setup", 132, "price", [112, 114, 105, 99, 101]), ("PeepBox$Setup", 199, "shown", [115, 104, 111, 119, 110]), ("PeepBox$Setup", 201, "kinds", [107, 105, 110, 100, 115]), ("PeepBox$Setup", 203, "depth", [100, 101, 112, 116, 104])]
def kStrAt (tx : List Int32) (a : Nat) (A : Nat → Prop) (U : State) (H : Heap) : Prop := va_O "java/lang/String" a A U H ∧ va_OF "java/lang/String" "coder" "B" (.int 0) a A U H ∧ ∃ v : Nat, va_OF "java/lang/String" "value" "[B" (.ref v) a A U H ∧ va_T .byte v tx.length (fun j => .int (tx.getD j 0)) A U H
theorem kStrAt.go {tx : List Int32} {a : Nat} {A B : Nat → Prop} {s U : State} {H0 H : Heap} (h : kStrAt tx a A s H0) (hq : ∀ a : Nat, a < H0.size → ¬ A a → H[a]? = H0[a]?) (hAB : ∀ q, B q → A q) (hW : s.vm.Alike U.vm) : kStrAt tx a B U H := by
  obtain ⟨h1, h2, v, h3, h4⟩ := h
  exact ⟨((va_O.moved hW h1).kept hq).narrow hAB, ((va_OF.moved hW h2).kept hq).narrow hAB, v, ((va_OF.moved hW h3).kept hq).narrow hAB, ((va_T.moved hW h4).kept hq).narrow hAB⟩
def kThrown : List String := ["java/lang/IndexOutOfBoundsException", "java/lang/IllegalArgumentException", "java/lang/IllegalStateException"]
def kDecl : List String := ["java/lang/RuntimeException", "java/lang/Exception", "java/lang/Throwable"]
def EN (D : va_G) (cy : Nat → ClassId) (A : Nat → Prop) (U : State) (H : Heap) : Prop :=
  va_K D vwCl (kTys cy) U ∧ (∀ q ∈ kNest, va_Nw (.methodLinkNest q.1 q.2.1 q.2.2.1 q.2.2.2) U) ∧ (∀ q ∈ kStr, ∃ a : Nat, vk_R q.1 q.2.1 q.2.2.1 a U ∧ kStrAt q.2.2.2 a A U H) ∧
  va_Z "java/lang/String" "COMPACT_STRINGS" "Z" (.int 1) A U H ∧ vx_Zq Bundle.tN "UNASSIGNED_STACK" Bundle.steD A U H ∧ vx_Zq Bundle.tN "SUPPRESSED_SENTINEL" Bundle.listD A U H ∧ va_AO "PeepBox$Show" U ∧ (∀ X ∈ kThrown, va_Nw (.castable X X) U) ∧ va_Zq "jdk/internal/util/Preconditions" "SIOOBE_FORMATTER" "Ljava/util/function/BiFunction;" A U H ∧ ∀ Y ∈ kDecl, va_Nw (.declares (Bundle.initS Y)) U
/-- what may stand as an environment: it goes into a callee -/
def EOK (E : (Nat → Prop) → State → Heap → Prop) : Prop := ∀ (A B : Nat → Prop) (s U : State) (H0 H : Heap), E A s H0 → (∀ a : Nat, a < H0.size → ¬ A a → H[a]? = H0[a]?) → (∀ q, B q → A q) → s.WarmedH U.vm → E B U H
theorem EN_ok (D : va_G) (cy : Nat → ClassId) : EOK (EN D cy) := by
  intro A B s U H0 H h hq hAB hW
  obtain ⟨h1, h2, h3, h4, h5, h6, h7, h8, h9, h10⟩ := h
  refine ⟨va_K.moved hW.alike h1, fun q hq => va_Nw.warmM hW (h2 q hq), fun q hk => ?_, ((va_Z.moved hW.alike h4).kept hq).narrow hAB, ((vx_Zq.moved hW.alike h5).kept hq).narrow hAB, ((vx_Zq.moved hW.alike h6).kept hq).narrow hAB, va_AO.moved hW.alike h7, fun X hX => va_Nw.warmC hW (h8 X hX), ((va_Zq.moved hW.alike h9).kept hq).narrow hAB, fun Y hY => va_Nw.warmD hW (h10 Y hY)⟩
  obtain ⟨a, g1, g2⟩ := h3 q hk
  exact ⟨a, vk_R.warm hW g1, g2.go hq hAB hW.alike⟩
/-- .. and with a String constant in the hand -/
def ES (D : va_G) (cy : Nat → ClassId) (tx : List Int32) (a : Nat) (A : Nat → Prop) (U : State) (H : Heap) : Prop := EN D cy A U H ∧ kStrAt tx a A U H
theorem ES_ok (D : va_G) (cy : Nat → ClassId) (tx : List Int32) (a : Nat) : EOK (ES D cy tx a) := fun A B s U H0 H h hq hAB hW => ⟨EN_ok D cy A B s U H0 H h.1 hq hAB hW, h.2.go hq hAB hW.alike⟩
/-- a contract's start: the arguments, the cells, the environment -/
def kP (E : (Nat → Prop) → State → Heap → Prop) (D : va_G) (av : List Value) (wc : va_W) (sz : Nat) : Array Value → State → Prop :=
  va_Pc av (fun U => U.heap.size = sz ∧ va_P D vwCl wc U.heap ∧ va_D (fun _ => True) wc ∧ E (va_A wc sz) U U.heap)
/-- a contract's end: the answer v, the cells w -/
def kQi (D : va_G) (v : Int32) (w : va_W) (A : Nat → Prop) : Array Value → State → Outcome → State → Prop := va_Qi (fun (r : Int32) (_ : Unit) => r = v) (fun _ t => va_P D vwCl w t.heap ∧ va_D A w) A
def kQl (D : va_G) (v : Int64) (w : va_W) (A : Nat → Prop) : Array Value → State → Outcome → State → Prop := va_Ql (fun (r : Int64) (_ : Unit) => r = v) (fun _ t => va_P D vwCl w t.heap ∧ va_D A w) A
def kQf (D : va_G) (v : UInt32) (w : va_W) (A : Nat → Prop) : Array Value → State → Outcome → State → Prop := va_Qf (fun (r : UInt32) (_ : Unit) => r = v) (fun _ t => va_P D vwCl w t.heap ∧ va_D A w) A
def kQv (D : va_G) (w : va_W) (A : Nat → Prop) : Array Value → State → Outcome → State → Prop := va_Qv (fun (_ : Unit) => True) (fun _ t => va_P D vwCl w t.heap ∧ va_D A w) A
theorem kP_blind {E : (Nat → Prop) → State → Heap → Prop} (hE : EOK E) (D : va_G) (av : List Value) (wc : va_W) (sz : Nat) : FrameBlind (kP E D av wc sz) := by
  intro a U g mk h
  obtain ⟨h1, h2, h3, h4, h5⟩ := h
  exact ⟨h1, h2, h3, h4, hE _ _ U (U.calling g mk a) _ _ h5 (fun _ _ _ => rfl) (fun _ h => h) (State.WarmedH.refl U)⟩
theorem va_D.any {A B : Nat → Prop} {ws : va_W} (h : va_D A ws) (hB : ∀ (k : Nat) (q : Nat × va_E), ws[k]? = some q → B q.1) : va_D B ws := ⟨h.1, hB⟩
/-- the cells by their places -/
theorem kSub {A : Nat → Prop} {D : va_G} {ws wc : va_W} {H : Heap} (hP : va_P D vwCl ws H) (hD : va_D A ws) (is : List Nat) (hn : va_nd is = true) (hC : is.map (fun i => ws[i]?) = wc.map some) : va_P D vwCl wc H ∧ va_D (fun _ => True) wc :=
  ⟨fun k q hk => by
    have h1 : (wc.map some)[k]? = some (some q) := by rw [List.getElem?_map, hk]; rfl
    rw [← hC, List.getElem?_map] at h1
    cases h2 : is[k]? with
    | none => rw [h2] at h1; cases h1
    | some i => rw [h2] at h1; exact hP i q (Option.some.inj h1),
  (hD.sub is hn hC).any (fun _ _ _ => trivial)⟩
/-- a callee's start, out of the caller's world -/
theorem kStart {E : (Nat → Prop) → State → Heap → Prop} (hE : EOK E) {A : Nat → Prop} {D : va_G} {ws wc : va_W} {s : State} {H : Heap} {locs : List Loc} (h0 : E A s s.heap) (hP : va_P D vwCl ws H) (hD : va_D A ws) (hS : va_S A s.heap H locs) (hA : ∀ q, s.heap.size ≤ q → A q) (is : List Nat) (hn : va_nd is = true) (hC : is.map (fun i => ws[i]?) = wc.map some) (av : List Value) :
    ∀ U : State, U.heap = H → s.WarmedH U.vm → kP E D av wc H.size av.toArray U := by
  intro U hU hW
  obtain ⟨g1, g2⟩ := kSub hP hD is hn hC
  refine ⟨rfl, by rw [hU], by rw [hU]; exact g1, g2, ?_⟩
  rw [hU]
  exact hE A _ s U s.heap H h0 (fun a h1 h2 => hS.2.1 a h1 h2) (va_free hD hS hA is hC) hW

section KC
variable {p : Program} {l : Launch} {e : Env} {R : Room} {s : State} {m : MethodId} {args : Array Value} {below : List Frame} {meth : Method} {c : Code} {H : Heap} {locs : List Loc} {cells slots : Nat} {Q : State → Prop}
variable {cc : ByteArray} {pc mc ms : Nat} {ls : Array Slot} {rest st0 : List Value} {D : va_G} {A : Nat → Prop} {a : Array Value} {ws wc w1 : va_W}
theorem kc_i {v : Int32} (hr : va_Run p l e R s m args below meth c H locs cells slots mc ms (F0 m pc ls st0) rest (kQi D v w1 (va_A wc H.size) a) (va_A wc H.size)) (hP : va_P D vwCl ws H) (hD : va_D A ws) (hS : va_S A s.heap H locs) (hA : ∀ q, s.heap.size ≤ q → A q) (is : List Nat) (hC : is.map (fun i => ws[i]?) = wc.map some) (hl : is.length ≤ w1.length)
    (kk : ∀ (H1 : Heap) (locs1 : List Loc), va_P D vwCl (wjn ws is w1) H1 → va_D A (wjn ws is w1) → va_S A s.heap H1 locs1 → W p l e R s m args below meth c H1 locs1 (cells + mc) (slots + ms) Q (F0 m (pc + 3) ls (.int v :: rest))) : W p l e R s m args below meth c H locs cells slots Q (F0 m pc ls st0) := by
  refine va_calli hr hS (fun q _ h => va_free hD hS hA is hC q h) (va_free hD hS hA is hC) (fun r u t H1 locs1 ht hvm hw hB hz hk hS1 => ?_)
  obtain ⟨g1, g2⟩ := hB
  rw [ht] at g1
  subst hw
  obtain ⟨p1, p2⟩ := wjn_P hP hD is hC hl hk (va_free hD hS hA is hC) g1 g2
  exact kk H1 locs1 p1 p2 hS1
theorem kc_i0 {v : Int32} (hr : va_Run p l e R s m args below meth c H locs cells slots 0 0 (F0 m pc ls st0) rest (kQi D v w1 (va_A wc H.size) a) (va_A wc H.size)) (hP : va_P D vwCl ws H) (hD : va_D A ws) (hS : va_S A s.heap H locs) (hA : ∀ q, s.heap.size ≤ q → A q) (is : List Nat) (hC : is.map (fun i => ws[i]?) = wc.map some) (hl : is.length ≤ w1.length)
    (kk : ∀ (H1 : Heap) (locs1 : List Loc), va_P D vwCl (wjn ws is w1) H1 → va_D A (wjn ws is w1) → va_S A s.heap H1 locs1 → W p l e R s m args below meth c H1 locs1 cells slots Q (F0 m (pc + 3) ls (.int v :: rest))) : W p l e R s m args below meth c H locs cells slots Q (F0 m pc ls st0) := by
  refine va_calli hr hS (fun q _ h => va_free hD hS hA is hC q h) (va_free hD hS hA is hC) (fun r u t H1 locs1 ht hvm hw hB hz hk hS1 => ?_)
  obtain ⟨g1, g2⟩ := hB
  rw [ht] at g1
  subst hw
  obtain ⟨p1, p2⟩ := wjn_P hP hD is hC hl hk (va_free hD hS hA is hC) g1 g2
  exact kk H1 locs1 p1 p2 hS1
theorem kc_l {v : Int64} (hr : va_Run p l e R s m args below meth c H locs cells slots mc ms (F0 m pc ls st0) rest (kQl D v w1 (va_A wc H.size) a) (va_A wc H.size)) (hP : va_P D vwCl ws H) (hD : va_D A ws) (hS : va_S A s.heap H locs) (hA : ∀ q, s.heap.size ≤ q → A q) (is : List Nat) (hC : is.map (fun i => ws[i]?) = wc.map some) (hl : is.length ≤ w1.length)
    (kk : ∀ (H1 : Heap) (locs1 : List Loc), va_P D vwCl (wjn ws is w1) H1 → va_D A (wjn ws is w1) → va_S A s.heap H1 locs1 → W p l e R s m args below meth c H1 locs1 (cells + mc) (slots + ms) Q (F0 m (pc + 3) ls (.long v :: rest))) : W p l e R s m args below meth c H locs cells slots Q (F0 m pc ls st0) := by
  refine va_calll hr hS (fun q _ h => va_free hD hS hA is hC q h) (va_free hD hS hA is hC) (fun r u t H1 locs1 ht hvm hw hB hz hk hS1 => ?_)
  obtain ⟨g1, g2⟩ := hB
  rw [ht] at g1
  subst hw
  obtain ⟨p1, p2⟩ := wjn_P hP hD is hC hl hk (va_free hD hS hA is hC) g1 g2
  exact kk H1 locs1 p1 p2 hS1
theorem kc_l0 {v : Int64} (hr : va_Run p l e R s m args below meth c H locs cells slots 0 0 (F0 m pc ls st0) rest (kQl D v w1 (va_A wc H.size) a) (va_A wc H.size)) (hP : va_P D vwCl ws H) (hD : va_D A ws) (hS : va_S A s.heap H locs) (hA : ∀ q, s.heap.size ≤ q → A q) (is : List Nat) (hC : is.map (fun i => ws[i]?) = wc.map some) (hl : is.length ≤ w1.length)
    (kk : ∀ (H1 : Heap) (locs1 : List Loc), va_P D vwCl (wjn ws is w1) H1 → va_D A (wjn ws is w1) → va_S A s.heap H1 locs1 → W p l e R s m args below meth c H1 locs1 cells slots Q (F0 m (pc + 3) ls (.long v :: rest))) : W p l e R s m args below meth c H locs cells slots Q (F0 m pc ls st0) := by
  refine va_calll hr hS (fun q _ h => va_free hD hS hA is hC q h) (va_free hD hS hA is hC) (fun r u t H1 locs1 ht hvm hw hB hz hk hS1 => ?_)
  obtain ⟨g1, g2⟩ := hB
  rw [ht] at g1
  subst hw
  obtain ⟨p1, p2⟩ := wjn_P hP hD is hC hl hk (va_free hD hS hA is hC) g1 g2
  exact kk H1 locs1 p1 p2 hS1
theorem kc_f {v : UInt32} (hr : va_Run p l e R s m args below meth c H locs cells slots mc ms (F0 m pc ls st0) rest (kQf D v w1 (va_A wc H.size) a) (va_A wc H.size)) (hP : va_P D vwCl ws H) (hD : va_D A ws) (hS : va_S A s.heap H locs) (hA : ∀ q, s.heap.size ≤ q → A q) (is : List Nat) (hC : is.map (fun i => ws[i]?) = wc.map some) (hl : is.length ≤ w1.length)
    (kk : ∀ (H1 : Heap) (locs1 : List Loc), va_P D vwCl (wjn ws is w1) H1 → va_D A (wjn ws is w1) → va_S A s.heap H1 locs1 → W p l e R s m args below meth c H1 locs1 (cells + mc) (slots + ms) Q (F0 m (pc + 3) ls (.float v :: rest))) : W p l e R s m args below meth c H locs cells slots Q (F0 m pc ls st0) := by
  refine va_callf hr hS (fun q _ h => va_free hD hS hA is hC q h) (va_free hD hS hA is hC) (fun r u t H1 locs1 ht hvm hw hB hz hk hS1 => ?_)
  obtain ⟨g1, g2⟩ := hB
  rw [ht] at g1
  subst hw
  obtain ⟨p1, p2⟩ := wjn_P hP hD is hC hl hk (va_free hD hS hA is hC) g1 g2
  exact kk H1 locs1 p1 p2 hS1
theorem kc_f0 {v : UInt32} (hr : va_Run p l e R s m args below meth c H locs cells slots 0 0 (F0 m pc ls st0) rest (kQf D v w1 (va_A wc H.size) a) (va_A wc H.size)) (hP : va_P D vwCl ws H) (hD : va_D A ws) (hS : va_S A s.heap H locs) (hA : ∀ q, s.heap.size ≤ q → A q) (is : List Nat) (hC : is.map (fun i => ws[i]?) = wc.map some) (hl : is.length ≤ w1.length)
    (kk : ∀ (H1 : Heap) (locs1 : List Loc), va_P D vwCl (wjn ws is w1) H1 → va_D A (wjn ws is w1) → va_S A s.heap H1 locs1 → W p l e R s m args below meth c H1 locs1 cells slots Q (F0 m (pc + 3) ls (.float v :: rest))) : W p l e R s m args below meth c H locs cells slots Q (F0 m pc ls st0) := by
  refine va_callf hr hS (fun q _ h => va_free hD hS hA is hC q h) (va_free hD hS hA is hC) (fun r u t H1 locs1 ht hvm hw hB hz hk hS1 => ?_)
  obtain ⟨g1, g2⟩ := hB
  rw [ht] at g1
  subst hw
  obtain ⟨p1, p2⟩ := wjn_P hP hD is hC hl hk (va_free hD hS hA is hC) g1 g2
  exact kk H1 locs1 p1 p2 hS1
theorem kc_v  (hr : va_Run p l e R s m args below meth c H locs cells slots mc ms (F0 m pc ls st0) rest (kQv D w1 (va_A wc H.size) a) (va_A wc H.size)) (hP : va_P D vwCl ws H) (hD : va_D A ws) (hS : va_S A s.heap H locs) (hA : ∀ q, s.heap.size ≤ q → A q) (is : List Nat) (hC : is.map (fun i => ws[i]?) = wc.map some) (hl : is.length ≤ w1.length)
    (kk : ∀ (H1 : Heap) (locs1 : List Loc), va_P D vwCl (wjn ws is w1) H1 → va_D A (wjn ws is w1) → va_S A s.heap H1 locs1 → W p l e R s m args below meth c H1 locs1 (cells + mc) (slots + ms) Q (F0 m (pc + 3) ls (rest))) : W p l e R s m args below meth c H locs cells slots Q (F0 m pc ls st0) := by
  refine va_callv hr hS (fun q _ h => va_free hD hS hA is hC q h) (va_free hD hS hA is hC) (fun u t H1 locs1 ht hvm hw hB hz hk hS1 => ?_)
  obtain ⟨g1, g2⟩ := hB
  rw [ht] at g1
  obtain ⟨p1, p2⟩ := wjn_P hP hD is hC hl hk (va_free hD hS hA is hC) g1 g2
  exact kk H1 locs1 p1 p2 hS1
theorem kc_v0  (hr : va_Run p l e R s m args below meth c H locs cells slots 0 0 (F0 m pc ls st0) rest (kQv D w1 (va_A wc H.size) a) (va_A wc H.size)) (hP : va_P D vwCl ws H) (hD : va_D A ws) (hS : va_S A s.heap H locs) (hA : ∀ q, s.heap.size ≤ q → A q) (is : List Nat) (hC : is.map (fun i => ws[i]?) = wc.map some) (hl : is.length ≤ w1.length)
    (kk : ∀ (H1 : Heap) (locs1 : List Loc), va_P D vwCl (wjn ws is w1) H1 → va_D A (wjn ws is w1) → va_S A s.heap H1 locs1 → W p l e R s m args below meth c H1 locs1 cells slots Q (F0 m (pc + 3) ls (rest))) : W p l e R s m args below meth c H locs cells slots Q (F0 m pc ls st0) := by
  refine va_callv hr hS (fun q _ h => va_free hD hS hA is hC q h) (va_free hD hS hA is hC) (fun u t H1 locs1 ht hvm hw hB hz hk hS1 => ?_)
  obtain ⟨g1, g2⟩ := hB
  rw [ht] at g1
  obtain ⟨p1, p2⟩ := wjn_P hP hD is hC hl hk (va_free hD hS hA is hC) g1 g2
  exact kk H1 locs1 p1 p2 hS1
theorem kr_i {v : Int32} (hexec : p.tables.exec = Jvm.exec) (hb : c.code = cc) (hr : meth.sig.returnType = some .int) (hlocks : meth.locks = false) (hP : va_P D vwCl w1 H) (hD : va_D A w1) (hS : va_S A s.heap H locs) (hdg : decode cc pc = .ok (.ireturn, 1)) : W p l e R s m args below meth c H locs cells slots (MQ below (kQi D v w1 A) args s cells slots A) (F0 m pc ls [.int v]) :=
  W.iret hexec hb hr (fun t ht hW => ⟨⟨v, (), rfl, rfl, by rw [ht]; exact hP, hD⟩, hS.F ht⟩) hS.2.2 hdg hlocks
theorem kr_l {v : Int64} (hexec : p.tables.exec = Jvm.exec) (hb : c.code = cc) (hr : meth.sig.returnType = some .long) (hlocks : meth.locks = false) (hP : va_P D vwCl w1 H) (hD : va_D A w1) (hS : va_S A s.heap H locs) (hdg : decode cc pc = .ok (.lreturn, 1)) : W p l e R s m args below meth c H locs cells slots (MQ below (kQl D v w1 A) args s cells slots A) (F0 m pc ls [.long v]) :=
  W.lret hexec hb hr (fun t ht hW => ⟨⟨v, (), rfl, rfl, by rw [ht]; exact hP, hD⟩, hS.F ht⟩) hS.2.2 hdg hlocks
theorem kr_f {v : UInt32} (hexec : p.tables.exec = Jvm.exec) (hb : c.code = cc) (hr : meth.sig.returnType = some .float) (hlocks : meth.locks = false) (hP : va_P D vwCl w1 H) (hD : va_D A w1) (hS : va_S A s.heap H locs) (hdg : decode cc pc = .ok (.freturn, 1)) : W p l e R s m args below meth c H locs cells slots (MQ below (kQf D v w1 A) args s cells slots A) (F0 m pc ls [.float v]) :=
  W.fret hexec hb hr (fun t ht hW => ⟨⟨v, (), rfl, rfl, by rw [ht]; exact hP, hD⟩, hS.F ht⟩) hS.2.2 hdg hlocks
theorem kr_z {v : Int32} {ty : FieldType} (hexec : p.tables.exec = Jvm.exec) (hb : c.code = cc) (hr : meth.sig.returnType = some ty) (hlocks : meth.locks = false) (hn : narrow ty (.int v) = .int v) (hP : va_P D vwCl w1 H) (hD : va_D A w1) (hS : va_S A s.heap H locs) (hdg : decode cc pc = .ok (.ireturn, 1)) : W p l e R s m args below meth c H locs cells slots (MQ below (kQi D v w1 A) args s cells slots A) (F0 m pc ls [.int v]) :=
  W.zret hexec hb hr hn (fun t ht hW => ⟨⟨v, (), rfl, rfl, by rw [ht]; exact hP, hD⟩, hS.F ht⟩) hS.2.2 hdg hlocks
theorem kr_v (hexec : p.tables.exec = Jvm.exec) (hb : c.code = cc) (hr : meth.sig.returnType = none) (hlocks : meth.locks = false) (hP : va_P D vwCl w1 H) (hD : va_D A w1) (hS : va_S A s.heap H locs) (hdg : decode cc pc = .ok (.return_, 1)) : W p l e R s m args below meth c H locs cells slots (MQ below (kQv D w1 A) args s cells slots A) (F0 m pc ls []) :=
  W.vret hexec hb hr (fun t ht hW => ⟨⟨(), rfl, trivial, by rw [ht]; exact hP, hD⟩, hS.F ht⟩) hS.2.2 hdg hlocks
end KC
theorem kMet {l : Launch} {y : MethodName} {ws ws' : List Cond} {rm : Room} {Qc : (Nat → Prop) → Array Value → State → Outcome → State → Prop} {mc ms : Nat} {cc : ByteArray} {maxL : Nat} {ret : Option FieldType} {D : va_G} {E : (Nat → Prop) → State → Heap → Prop} {av : List Value} {wc : va_W} {sz : Nat} {own : String}
    (hy : plainName y.cls = true) (hcl : y.cls = own) (hw : ws = Cond.code y cc maxL ret :: ws') (hlen : (lg_sl av).length ≤ maxL)
    (body : ∀ (p : Program) (e : Env) (s : State) (m : MethodId) (args : Array Value) (below : List Frame) (meth : Method) (c : Code) (A : Nat → Prop), p.tables.exec = Jvm.exec → c.code = cc → meth.sig.returnType = ret → (∀ w ∈ ws, w.before args s = true) → s.vm.findClass own = some m.cls → c.maxLocals = maxL → meth.locks = false → meth.name = y.name → E A s s.heap → va_P D vwCl wc s.heap → va_D A wc → (∀ q, s.heap.size ≤ q → A q) → sz = s.heap.size →
      ∀ ls : Array Slot, lv_has ls maxL (lv_args 0 av) → W p l e rm s m args below meth c s.heap [] 0 0 (MQ below (Qc A) args s mc ms A) (F0 m 0 ls [])) : Met l y ws rm (kP E D av wc sz) (Qc (va_A wc sz)) mc ms (va_A wc sz) := by
  refine Met.ofW (cc := cc) (maxL := maxL) (ret := ret) hy hw ?_
  intro p e s m args below meth c s₁ B hml hv
  obtain ⟨rfl, hsz, hP, hD0, hE0⟩ := hv
  subst hsz
  have hl := lv_entry av (n := maxL) hlen
  rw [lg_entry_eq]
  exact body p e s m _ below meth c (va_A wc s.heap.size) B.exec B.bytes B.returns (atoms_spec (ws := ws) B.pre) (by rw [← hcl]; exact findClass_of_methodNamed B.named) hml B.notSynchronized (name_of_methodNamed B.named B.method).1 hE0 hP hD0.self (fun q h => Or.inr h) rfl _ hl
/-! methods that throw: which of the three it is, and that the world stays -/
def kXn : Nat → String
  | 1 => "java/lang/IndexOutOfBoundsException"
  | 2 => "java/lang/IllegalArgumentException"
  | _ => "java/lang/IllegalStateException"
def kXC (D : va_G) (k : Nat) (w : va_W) (A : Nat → Prop) : String → State → State → Prop := vx_X (fun (_ : Unit) => True) (fun E _ t => E = kXn k ∧ va_P D vwCl w t.heap ∧ va_D A w) A
def kTi (A : Nat → Prop) : Array Value → State → Outcome → State → Prop := va_Qi (fun (_ : Int32) (_ : Unit) => False) (fun _ _ => True) A
def kTl (A : Nat → Prop) : Array Value → State → Outcome → State → Prop := va_Ql (fun (_ : Int64) (_ : Unit) => False) (fun _ _ => True) A
def kTv (A : Nat → Prop) : Array Value → State → Outcome → State → Prop := va_Qv (fun (_ : Unit) => False) (fun _ _ => True) A
theorem kx_end {D : va_G} {A : Nat → Prop} {ws : va_W} {s : State} {H : Heap} {locs : List Loc} {cls : String} {k : Nat} (hP : va_P D vwCl ws H) (hD : va_D A ws) (hS : va_S A s.heap H locs) (hk : cls = kXn k) :
    ∀ t : State, s.vm.Alike t.vm → H.size ≤ t.heap.size → (∀ q : Nat, q < H.size → t.heap[q]? = H[q]?) → kXC D k ws A cls s t := fun t _ h1 h2 =>
  ⟨(), trivial, ⟨hk, hP.kept (fun j q hj => h2 _ (hP j q hj).lt), hD⟩, Nat.le_trans hS.1 h1, fun q h3 h4 => (h2 q (Nat.lt_of_lt_of_le h3 hS.1)).trans (hS.2.1 q h3 h4)⟩
section KT
variable {p : Program} {l : Launch} {e : Env} {R : Room} {s : State} {m : MethodId} {args : Array Value} {below : List Frame} {meth : Method} {c : Code} {H : Heap} {locs : List Loc} {Q : State → Prop}
variable {cc : ByteArray} {pc mc ms k : Nat} {ls : Array Slot} {rest st0 : List Value} {D : va_G} {A : Nat → Prop} {a : Array Value} {ws wc : va_W} {Qc : Array Value → State → Outcome → State → Prop}
theorem kt_i (hr : vx_Run p l e R s m args below meth c H locs 0 0 1 6 (F0 m pc ls st0) rest (kTi (va_A wc H.size) a) (kXC D k wc (va_A wc H.size)) (va_A wc H.size)) (hP : va_P D vwCl ws H) (hD : va_D A ws) (hS : va_S A s.heap H locs) (hA : ∀ q, s.heap.size ≤ q → A q) (is : List Nat) (hC : is.map (fun i => ws[i]?) = wc.map some) (hl : is.length ≤ wc.length) (hlocks : meth.locks = false) (hxt : ∀ x ∈ c.exceptionTable.toList, False) :
    W p l e R s m args below meth c H locs 0 0 (vx_MQ below Qc (kXC D k (wjn ws is wc) A) args s 1 6 A) (F0 m pc ls st0) := by
  refine vx_calli hr hS (fun q _ h => va_free hD hS hA is hC q h) (va_free hD hS hA is hC) (fun q _ h => va_free hD hS hA is hC q h) (fun E ce q9 u t H1 locs1 ht hvm _ hB _ hk hS1 hc1 hc2 hc3 => ?_) (fun r u t H1 locs1 _ _ hw => hw.elim)
  obtain ⟨hE, g1, g2⟩ := hB
  rw [ht] at g1
  obtain ⟨p1, p2⟩ := wjn_P hP hD is hC hl hk (va_free hD hS hA is hC) g1 g2
  refine vx_out (fun z hz => (hxt z hz).elim) hlocks hc1 hc2 hc3 (fun t2 ht2 hvm2 => ⟨(), trivial, ⟨hE, by rw [ht2]; exact p1, p2⟩, hS1.F ht2⟩) hS1.2.2 (by omega) (by omega)
theorem kt_l (hr : vx_Run p l e R s m args below meth c H locs 0 0 1 6 (F0 m pc ls st0) rest (kTl (va_A wc H.size) a) (kXC D k wc (va_A wc H.size)) (va_A wc H.size)) (hP : va_P D vwCl ws H) (hD : va_D A ws) (hS : va_S A s.heap H locs) (hA : ∀ q, s.heap.size ≤ q → A q) (is : List Nat) (hC : is.map (fun i => ws[i]?) = wc.map some) (hl : is.length ≤ wc.length) (hlocks : meth.locks = false) (hxt : ∀ x ∈ c.exceptionTable.toList, False) :
    W p l e R s m args below meth c H locs 0 0 (vx_MQ below Qc (kXC D k (wjn ws is wc) A) args s 1 6 A) (F0 m pc ls st0) := by
  refine vx_calll hr hS (fun q _ h => va_free hD hS hA is hC q h) (va_free hD hS hA is hC) (fun q _ h => va_free hD hS hA is hC q h) (fun E ce q9 u t H1 locs1 ht hvm _ hB _ hk hS1 hc1 hc2 hc3 => ?_) (fun r u t H1 locs1 _ _ hw => hw.elim)
  obtain ⟨hE, g1, g2⟩ := hB
  rw [ht] at g1
  obtain ⟨p1, p2⟩ := wjn_P hP hD is hC hl hk (va_free hD hS hA is hC) g1 g2
  refine vx_out (fun z hz => (hxt z hz).elim) hlocks hc1 hc2 hc3 (fun t2 ht2 hvm2 => ⟨(), trivial, ⟨hE, by rw [ht2]; exact p1, p2⟩, hS1.F ht2⟩) hS1.2.2 (by omega) (by omega)
theorem kt_v (hr : vx_Run p l e R s m args below meth c H locs 0 0 1 6 (F0 m pc ls st0) rest (kTv (va_A wc H.size) a) (kXC D k wc (va_A wc H.size)) (va_A wc H.size)) (hP : va_P D vwCl ws H) (hD : va_D A ws) (hS : va_S A s.heap H locs) (hA : ∀ q, s.heap.size ≤ q → A q) (is : List Nat) (hC : is.map (fun i => ws[i]?) = wc.map some) (hl : is.length ≤ wc.length) (hlocks : meth.locks = false) (hxt : ∀ x ∈ c.exceptionTable.toList, False) :
    W p l e R s m args below meth c H locs 0 0 (vx_MQ below Qc (kXC D k (wjn ws is wc) A) args s 1 6 A) (F0 m pc ls st0) := by
  refine vx_callv hr hS (fun q _ h => va_free hD hS hA is hC q h) (va_free hD hS hA is hC) (fun q _ h => va_free hD hS hA is hC q h) (fun E ce q9 u t H1 locs1 ht hvm _ hB _ hk hS1 hc1 hc2 hc3 => ?_) (fun u t H1 locs1 _ _ hw => hw.elim)
  obtain ⟨hE, g1, g2⟩ := hB
  rw [ht] at g1
  obtain ⟨p1, p2⟩ := wjn_P hP hD is hC hl hk (va_free hD hS hA is hC) g1 g2
  refine vx_out (fun z hz => (hxt z hz).elim) hlocks hc1 hc2 hc3 (fun t2 ht2 hvm2 => ⟨(), trivial, ⟨hE, by rw [ht2]; exact p1, p2⟩, hS1.F ht2⟩) hS1.2.2 (by omega) (by omega)
end KT
theorem kMetT {l : Launch} {y : MethodName} {ws ws' : List Cond} {rm : Room} {Qc : (Nat → Prop) → Array Value → State → Outcome → State → Prop} {X : (Nat → Prop) → String → State → State → Prop} {mc ms : Nat} {cc : ByteArray} {maxL : Nat} {ret : Option FieldType} {D : va_G} {E : (Nat → Prop) → State → Heap → Prop} {av : List Value} {wc : va_W} {sz : Nat} {own : String}
    (hy : plainName y.cls = true) (hcl : y.cls = own) (hw : ws = Cond.code y cc maxL ret :: ws') (hlen : (lg_sl av).length ≤ maxL)
    (body : ∀ (p : Program) (e : Env) (s : State) (m : MethodId) (args : Array Value) (below : List Frame) (meth : Method) (c : Code) (A : Nat → Prop), p.tables.exec = Jvm.exec → c.code = cc → meth.sig.returnType = ret → (∀ w ∈ ws, w.before args s = true) → s.vm.findClass own = some m.cls → c.maxLocals = maxL → meth.locks = false → (∀ x ∈ c.exceptionTable.toList, False) → E A s s.heap → va_P D vwCl wc s.heap → va_D A wc → (∀ q, s.heap.size ≤ q → A q) → sz = s.heap.size →
      ∀ ls : Array Slot, lv_has ls maxL (lv_args 0 av) → W p l e rm s m args below meth c s.heap [] 0 0 (vx_MQ below (Qc A) (X A) args s mc ms A) (F0 m 0 ls [])) : vx_Met l y ws rm (kP E D av wc sz) (Qc (va_A wc sz)) (X (va_A wc sz)) mc ms (va_A wc sz) := by
  refine vx_ofW (cc := cc) (maxL := maxL) (ret := ret) hy hw ?_
  intro p e s m args below meth c s₁ B hml hxt hv
  obtain ⟨rfl, hsz, hP, hD0, hE0⟩ := hv
  subst hsz
  have hl := lv_entry av (n := maxL) hlen
  rw [lg_entry_eq]
  exact body p e s m _ below meth c (va_A wc s.heap.size) B.exec B.bytes B.returns (atoms_spec (ws := ws) B.pre) (by rw [← hcl]; exact findClass_of_methodNamed B.named) hml B.notSynchronized hxt hE0 hP hD0.self (fun q h => Or.inr h) rfl _ hl
/-! rows of rows (an array of arrays) -/
theorem kt_rows {i : Int32} (h : ¬ (i < 0 ∨ 8 ≤ i.toNatClampNeg)) : i.toNatClampNeg = 0 ∨ i.toNatClampNeg = 1 ∨ i.toNatClampNeg = 2 ∨ i.toNatClampNeg = 3 ∨ i.toNatClampNeg = 4 ∨ i.toNatClampNeg = 5 ∨ i.toNatClampNeg = 6 ∨ i.toNatClampNeg = 7 := by
  have : ¬ 8 ≤ i.toNatClampNeg := fun q => h (Or.inr q)
  omega
def rw8 {β : Type} (n : Nat) (a0 a1 a2 a3 a4 a5 a6 a7 : Option β) : Option β := match n with
  | 0 => a0
  | 1 => a1
  | 2 => a2
  | 3 => a3
  | 4 => a4
  | 5 => a5
  | 6 => a6
  | _ => a7
theorem kt_row0 {β : Type} {n : Nat} {a0 a1 a2 a3 a4 a5 a6 a7 r : Option β} (h : rw8 n a0 a1 a2 a3 a4 a5 a6 a7 = r) (e : n = 0) : a0 = r := by subst e; exact h
theorem kt_row1 {β : Type} {n : Nat} {a0 a1 a2 a3 a4 a5 a6 a7 r : Option β} (h : rw8 n a0 a1 a2 a3 a4 a5 a6 a7 = r) (e : n = 1) : a1 = r := by subst e; exact h
theorem kt_row2 {β : Type} {n : Nat} {a0 a1 a2 a3 a4 a5 a6 a7 r : Option β} (h : rw8 n a0 a1 a2 a3 a4 a5 a6 a7 = r) (e : n = 2) : a2 = r := by subst e; exact h
theorem kt_row3 {β : Type} {n : Nat} {a0 a1 a2 a3 a4 a5 a6 a7 r : Option β} (h : rw8 n a0 a1 a2 a3 a4 a5 a6 a7 = r) (e : n = 3) : a3 = r := by subst e; exact h
theorem kt_row4 {β : Type} {n : Nat} {a0 a1 a2 a3 a4 a5 a6 a7 r : Option β} (h : rw8 n a0 a1 a2 a3 a4 a5 a6 a7 = r) (e : n = 4) : a4 = r := by subst e; exact h
theorem kt_row5 {β : Type} {n : Nat} {a0 a1 a2 a3 a4 a5 a6 a7 r : Option β} (h : rw8 n a0 a1 a2 a3 a4 a5 a6 a7 = r) (e : n = 5) : a5 = r := by subst e; exact h
theorem kt_row6 {β : Type} {n : Nat} {a0 a1 a2 a3 a4 a5 a6 a7 r : Option β} (h : rw8 n a0 a1 a2 a3 a4 a5 a6 a7 = r) (e : n = 6) : a6 = r := by subst e; exact h
theorem kt_row7 {β : Type} {n : Nat} {a0 a1 a2 a3 a4 a5 a6 a7 r : Option β} (h : rw8 n a0 a1 a2 a3 a4 a5 a6 a7 = r) (e : n = 7) : a7 = r := by subst e; exact h
section KR
variable {p : Program} {l : Launch} {e : Env} {R : Room} {s : State} {m : MethodId} {args : Array Value} {below : List Frame} {meth : Method} {c : Code} {H : Heap} {locs : List Loc} {cells slots : Nat} {Q : State → Prop}
variable {cc : ByteArray} {pc : Nat} {ls : Array Slot} {rest : List Value} {D : va_G} {cl : List vw_C} {a : Nat} {tys : List (ClassId × FieldType)} {ws : va_W}
theorem kt_aldr (hexec : p.tables.exec = Jvm.exec) (hb : c.code = cc) (hK : va_K D cl tys s) (hP : va_P D cl ws H) (q0 t0 : Nat) {cA : ClassId} {n : Nat} {f : Nat → Option Nat} (ha : ws[q0]? = some (a, .inl (cA, n, .inr (.inr (.inr (.inr f)))))) (ht : tys[t0]? = some (cA, .array .int)) {i : Int32} (hin : vp_in i n) (hdg : decode cc pc = .ok (.aaload, 1))
    (kk : W p l e R s m args below meth c H locs cells slots Q (F0 m (pc + 1) ls (va_rf (f i.toNatClampNeg) :: rest))) : W p l e R s m args below meth c H locs cells slots Q (F0 m pc ls (.int i :: .ref a :: rest)) := by
  have hlt : i.toNatClampNeg < n := Nat.not_le.mp fun q => hin (Or.inr q)
  exact W.aald (v := va_rf (f i.toNatClampNeg)) (ty := .array .int) hexec hb (hP q0 _ ha) ((hK.2 t0 _ ht).1 n (fun j => va_rf (f j))) rfl (fun q => by cases q) (by show ¬ (i < 0 ∨ (arrV _ _ _).slots.size ≤ _); rw [arrV_size]; exact hin) (by show (arrV _ _ _).slots[_]? = _; rw [arrV_read _ _ hlt]) rfl rfl hdg kk
end KR
