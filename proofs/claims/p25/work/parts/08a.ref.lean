/-! contracts whose worlds come with new addresses: the posts, the calls, the ends -/
def kQE (D : va_G) {S : Type} (px : S → Prop) (w : S → va_W) (A : Nat → Prop) : Array Value → State → Outcome → State → Prop := va_Qv px (fun u t => va_P D vwCl (w u) t.heap ∧ va_D A (w u)) A
/-- an answer that is a reference; the world knows it -/
def kQR (D : va_G) {S : Type} (px : S → Nat → Prop) (w : S → Nat → va_W) (A : Nat → Prop) : Array Value → State → Outcome → State → Prop := va_Qr (fun (_ : S) => True) (fun u r t => px u r ∧ va_P D vwCl (w u r) t.heap ∧ va_D A (w u r)) A
/-- an answer that is a number, and a world with new addresses -/
def kQX (D : va_G) {S : Type} (px : Int32 → S → Prop) (w : S → va_W) (A : Nat → Prop) : Array Value → State → Outcome → State → Prop := va_Qi px (fun u t => va_P D vwCl (w u) t.heap ∧ va_D A (w u)) A
section KE
variable {p : Program} {l : Launch} {e : Env} {R : Room} {s : State} {m : MethodId} {args : Array Value} {below : List Frame} {meth : Method} {c : Code} {H : Heap} {locs : List Loc} {cells slots : Nat} {Q : State → Prop}
variable {cc : ByteArray} {pc mc ms : Nat} {ls : Array Slot} {rest st0 : List Value} {D : va_G} {A : Nat → Prop} {a : Array Value} {ws wc : va_W} {S : Type}
theorem kc_E {px : S → Prop} {w : S → va_W} (hr : va_Run p l e R s m args below meth c H locs cells slots mc ms (F0 m pc ls st0) rest (kQE D px w (va_A wc H.size) a) (va_A wc H.size)) (hP : va_P D vwCl ws H) (hD : va_D A ws) (hS : va_S A s.heap H locs) (hA : ∀ q, s.heap.size ≤ q → A q) (is : List Nat) (hC : is.map (fun i => ws[i]?) = wc.map some) (hl : ∀ u, is.length ≤ (w u).length)
    (kk : ∀ (u : S) (H1 : Heap) (locs1 : List Loc), px u → va_P D vwCl (wjn ws is (w u)) H1 → va_D A (wjn ws is (w u)) → va_S A s.heap H1 locs1 → W p l e R s m args below meth c H1 locs1 (cells + mc) (slots + ms) Q (F0 m (pc + 3) ls rest)) : W p l e R s m args below meth c H locs cells slots Q (F0 m pc ls st0) := by
  refine va_callv hr hS (fun q _ h => va_free hD hS hA is hC q h) (va_free hD hS hA is hC) (fun u t H1 locs1 ht hvm hw hB hz hk hS1 => ?_)
  obtain ⟨g1, g2⟩ := hB
  rw [ht] at g1
  obtain ⟨p1, p2⟩ := wjn_P hP hD is hC (hl u) hk (va_free hD hS hA is hC) g1 g2
  exact kk u H1 locs1 hw p1 p2 hS1
theorem kc_R {px : S → Nat → Prop} {w : S → Nat → va_W} (hr : va_Run p l e R s m args below meth c H locs cells slots mc ms (F0 m pc ls st0) rest (kQR D px w (va_A wc H.size) a) (va_A wc H.size)) (hP : va_P D vwCl ws H) (hD : va_D A ws) (hS : va_S A s.heap H locs) (hA : ∀ q, s.heap.size ≤ q → A q) (is : List Nat) (hC : is.map (fun i => ws[i]?) = wc.map some) (hl : ∀ u r, is.length ≤ (w u r).length)
    (kk : ∀ (u : S) (r : Nat) (H1 : Heap) (locs1 : List Loc), px u r → va_P D vwCl (wjn ws is (w u r)) H1 → va_D A (wjn ws is (w u r)) → va_S A s.heap H1 locs1 → W p l e R s m args below meth c H1 locs1 (cells + mc) (slots + ms) Q (F0 m (pc + 3) ls (.ref r :: rest))) : W p l e R s m args below meth c H locs cells slots Q (F0 m pc ls st0) := by
  refine va_callr hr hS (fun q _ h => va_free hD hS hA is hC q h) (va_free hD hS hA is hC) (fun u r t H1 locs1 ht hvm hw hB hz hk hS1 => ?_)
  obtain ⟨g0, g1, g2⟩ := hB
  rw [ht] at g1
  obtain ⟨p1, p2⟩ := wjn_P hP hD is hC (hl u r) hk (va_free hD hS hA is hC) g1 g2
  exact kk u r H1 locs1 g0 p1 p2 hS1
theorem kc_X {px : Int32 → S → Prop} {w : S → va_W} (hr : va_Run p l e R s m args below meth c H locs cells slots mc ms (F0 m pc ls st0) rest (kQX D px w (va_A wc H.size) a) (va_A wc H.size)) (hP : va_P D vwCl ws H) (hD : va_D A ws) (hS : va_S A s.heap H locs) (hA : ∀ q, s.heap.size ≤ q → A q) (is : List Nat) (hC : is.map (fun i => ws[i]?) = wc.map some) (hl : ∀ u, is.length ≤ (w u).length)
    (kk : ∀ (v : Int32) (u : S) (H1 : Heap) (locs1 : List Loc), px v u → va_P D vwCl (wjn ws is (w u)) H1 → va_D A (wjn ws is (w u)) → va_S A s.heap H1 locs1 → W p l e R s m args below meth c H1 locs1 (cells + mc) (slots + ms) Q (F0 m (pc + 3) ls (.int v :: rest))) : W p l e R s m args below meth c H locs cells slots Q (F0 m pc ls st0) := by
  refine va_calli hr hS (fun q _ h => va_free hD hS hA is hC q h) (va_free hD hS hA is hC) (fun v u t H1 locs1 ht hvm hw hB hz hk hS1 => ?_)
  obtain ⟨g1, g2⟩ := hB
  rw [ht] at g1
  obtain ⟨p1, p2⟩ := wjn_P hP hD is hC (hl u) hk (va_free hD hS hA is hC) g1 g2
  exact kk v u H1 locs1 hw p1 p2 hS1
theorem kr_E {px : S → Prop} {w : S → va_W} (u : S) (hu : px u) (hexec : p.tables.exec = Jvm.exec) (hb : c.code = cc) (hr : meth.sig.returnType = none) (hlocks : meth.locks = false) (hP : va_P D vwCl (w u) H) (hD : va_D A (w u)) (hS : va_S A s.heap H locs) (hdg : decode cc pc = .ok (.return_, 1)) (h1 : cells ≤ mc) (h2 : slots ≤ ms) : W p l e R s m args below meth c H locs cells slots (MQ below (kQE D px w A) args s mc ms A) (F0 m pc ls []) :=
  W.widen (k := mc) (n := ms) h1 h2 (W.vret hexec hb hr (fun t ht hW => ⟨⟨u, rfl, hu, by rw [ht]; exact hP, hD⟩, hS.F ht⟩) hS.2.2 hdg hlocks)
theorem kr_R {px : S → Nat → Prop} {w : S → Nat → va_W} {r : Nat} {rt : FieldType} (u : S) (hu : px u r) (hexec : p.tables.exec = Jvm.exec) (hb : c.code = cc) (hr : meth.sig.returnType = some rt) (hrt : (∃ n, rt = .object n) ∨ ∃ t, rt = .array t) (hlocks : meth.locks = false) (hP : va_P D vwCl (w u r) H) (hD : va_D A (w u r)) (hS : va_S A s.heap H locs) (hdg : decode cc pc = .ok (.areturn, 1)) (h1 : cells ≤ mc) (h2 : slots ≤ ms) : W p l e R s m args below meth c H locs cells slots (MQ below (kQR D px w A) args s mc ms A) (F0 m pc ls [.ref r]) :=
  W.widen (k := mc) (n := ms) h1 h2 (W.aret hexec hb hr hrt (Or.inr ⟨r, rfl⟩) (fun t ht hW => ⟨⟨u, r, rfl, trivial, hu, by rw [ht]; exact hP, hD⟩, hS.F ht⟩) hS.2.2 hdg hlocks)
theorem kr_X {px : Int32 → S → Prop} {w : S → va_W} {v : Int32} (u : S) (hu : px v u) (hexec : p.tables.exec = Jvm.exec) (hb : c.code = cc) (hr : meth.sig.returnType = some .int) (hlocks : meth.locks = false) (hP : va_P D vwCl (w u) H) (hD : va_D A (w u)) (hS : va_S A s.heap H locs) (hdg : decode cc pc = .ok (.ireturn, 1)) (h1 : cells ≤ mc) (h2 : slots ≤ ms) : W p l e R s m args below meth c H locs cells slots (MQ below (kQX D px w A) args s mc ms A) (F0 m pc ls [.int v]) :=
  W.widen (k := mc) (n := ms) h1 h2 (W.iret hexec hb hr (fun t ht hW => ⟨⟨v, u, rfl, hu, by rw [ht]; exact hP, hD⟩, hS.F ht⟩) hS.2.2 hdg hlocks)
end KE
/-! the texts of a StringBuilder: its bytes hold the letters tx, of ASCII alone -/
def asc (x : Int32) : Prop := 0 ≤ x ∧ x < 128
def ascS (tx : List Int32) : Prop := ∀ x ∈ tx, asc x
abbrev sbE (v : Nat) (ml : Int32) (n : Nat) : va_E := .inr (12, [.ref v, .int (0 : Int32), .int ml, .int (nI n)])
abbrev byE (cy : Nat → ClassId) (m : Nat) (f : Nat → Int32) : va_E := .inl (cy 1, m, .inl f)
def sbOK (tx : List Int32) (m : Nat) (f : Nat → Int32) : Prop := tx.length ≤ m ∧ m ≤ 200 ∧ sb_Fit f ∧ ∀ j, j < tx.length → f j = tx.getD j 0
theorem newLen_eq {m g p : Nat} (hg : g < 2 ^ 30) (hp : p < 2 ^ 30) : nI m + (if nI g < nI p then nI p else nI g) = nI (m + max g p) := by
  by_cases h : g < p
  · rw [if_pos (nI_lt h (by omega)), nI_add, Nat.max_eq_right (Nat.le_of_lt h)]
  · rw [if_neg (nI_nlt (by omega) (by omega)), nI_add, Nat.max_eq_left (by omega)]
theorem getD_appL {tx s : List Int32} {j : Nat} (h : j < tx.length) : (tx ++ s).getD j 0 = tx.getD j 0 := by
  simp only [List.getD_eq_getElem?_getD, List.getElem?_append_left h]
theorem getD_appR {tx s : List Int32} {j : Nat} (h : tx.length ≤ j) : (tx ++ s).getD j 0 = s.getD (j - tx.length) 0 := by
  simp only [List.getD_eq_getElem?_getD, List.getElem?_append_right h]
