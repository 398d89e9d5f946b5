/-! THE LAW: what holds all the way, calls from it -/
def LC (p : Program) (l : Launch) (s : State) (m : MethodId) (c : Code) (b L : Nat) (xs : Nat → Int32) (D : va_G) (cy : Nat → ClassId) : Prop :=
  p.tables.exec = Jvm.exec ∧ c.code = cL_law ∧ c.maxLocals = 9 ∧ s.vm.findClass RL = some m.cls ∧ (∀ w ∈ wsL_law, w.before #[Value.ref b] s = true) ∧ va_X b L xs s s.heap ∧ b < s.heap.size ∧ EL D cy (fun q => s.heap.size ≤ q) s s.heap ∧ l.stackTraces = false
theorem lg_cmp_self (x : Int64) : lg_cmp x x = 0 := by
  unfold lg_cmp
  simp
def Rf.thr (rf : Rf) (x : Int32) : Rf := mkRf x (Rf.bufferLength rf) (Rf.textLength rf) (Rf.position rf) (Rf.error rf) (Rf.errorAt rf) (Rf.errorOffset rf) (Rf.undoDepth rf) (Rf.numberStart rf) (Rf.nesting rf) (Rf.seen rf) (Rf.toldPlanes rf) (Rf.buffer rf) (Rf.data rf) (Rf.draft rf) (Rf.aside rf) (Rf.h0 rf) (Rf.h1 rf) (Rf.h2 rf) (Rf.h3 rf) (Rf.h4 rf) (Rf.h5 rf) (Rf.h6 rf) (Rf.h7 rf) (Rf.facts rf) (Rf.stack rf)
theorem RAll.thr {st : St} {rf : Rf} (R : RAll st rf) (x : Int32) : RAll st (Rf.thr rf x) := R
section LK
variable {p : Program} {l : Launch} {e : Env} {R : Room} {s : State} {m : MethodId} {args : Array Value} {below : List Frame} {meth : Method} {c : Code} {H : Heap} {locs : List Loc} {cells slots : Nat} {Q : State → Prop}
variable {cc : ByteArray} {pc mc ms : Nat} {ls : Array Slot} {rest st0 : List Value} {D : va_G} {A : Nat → Prop} {a : Array Value} {ws wc w1 : va_W}
/-- a call that makes cells -/
theorem ke_i {v : Int32} (ws2 : va_W) (hr : va_Run p l e R s m args below meth c H locs cells slots mc ms (F0 m pc ls st0) rest (kQi D v w1 (va_A wc H.size) a) (va_A wc H.size)) (hP : va_P D vwCl ws H) (hD : va_D A ws) (hS : va_S A s.heap H locs) (hA : ∀ q, s.heap.size ≤ q → A q) (is ns : List Nat) (hC : is.map (fun i => ws[i]?) = wc.map some) (hJ1 : is.map (fun i => ws2[i]?) = w1.map some) (hJ2 : ns.map (fun i => ws2[i]?) = ns.foldr (fun i acc => ws[i]? :: acc) []) (n2 : Nat) (hn : ws2.length = n2) (hchk : wchk n2 is is ns = true)
    (kk : ∀ (H1 : Heap) (locs1 : List Loc), va_P D vwCl ws2 H1 → va_D A ws2 → va_S A s.heap H1 locs1 → W p l e R s m args below meth c H1 locs1 (cells + mc) (slots + ms) Q (F0 m (pc + 3) ls (.int v :: rest))) : W p l e R s m args below meth c H locs cells slots Q (F0 m pc ls st0) := by
  refine va_calli hr hS (fun q _ h => va_free hD hS hA is hC q h) (va_free hD hS hA is hC) (fun r u t H1 locs1 ht hvm hw hB hz hk hS1 => ?_)
  obtain ⟨g1, g2⟩ := hB
  rw [ht] at g1
  subst hw
  obtain ⟨p1, p2⟩ := wjo_P hP hD is is ns hC hJ1 hJ2 n2 hn hchk hk (va_free hD hS hA is hC) g1 g2
  exact kk H1 locs1 p1 p2 hS1
/-- a call that changes nothing -/
theorem ke_s {v : Int32} (hr : va_Run p l e R s m args below meth c H locs cells slots mc ms (F0 m pc ls st0) rest (kQi D v wc (va_A wc H.size) a) (va_A wc H.size)) (hP : va_P D vwCl ws H) (hD : va_D A ws) (hS : va_S A s.heap H locs) (hA : ∀ q, s.heap.size ≤ q → A q) (is ns : List Nat) (hC : is.map (fun i => ws[i]?) = wc.map some) (n2 : Nat) (hn : ws.length = n2) (hchk : wchk n2 is is ns = true)
    (kk : ∀ (H1 : Heap) (locs1 : List Loc), va_P D vwCl ws H1 → va_D A ws → va_S A s.heap H1 locs1 → W p l e R s m args below meth c H1 locs1 (cells + mc) (slots + ms) Q (F0 m (pc + 3) ls (.int v :: rest))) : W p l e R s m args below meth c H locs cells slots Q (F0 m pc ls st0) :=
  ke_i ws hr hP hD hS hA is ns hC hC (wfold_map _ _).symm n2 hn hchk kk
/-- the script -/
theorem lw_ld (hexec : p.tables.exec = Jvm.exec) (hb : c.code = cc) {b L : Nat} {xs : Nat → Int32} (hX : va_X b L xs s s.heap) (hbl : b < s.heap.size) (hS : va_S (fun q => s.heap.size ≤ q) s.heap H locs) {i v : Int32} (hin : vp_in i L) (hv : xs i.toNatClampNeg = v) (hdg : decode cc pc = .ok (.iaload, 1))
    (kk : W p l e R s m args below meth c H locs cells slots Q (F0 m (pc + 1) ls (.int v :: rest))) : W p l e R s m args below meth c H locs cells slots Q (F0 m pc ls (.int i :: .ref b :: rest)) := by
  subst hv
  exact va_sld hexec hb hX hbl (Nat.not_le.mpr hbl) hS hin hdg kk
end LK
