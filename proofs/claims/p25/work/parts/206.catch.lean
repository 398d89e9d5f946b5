/-! methods with handlers: the law's wrappers -/
def EH (D : va_G) (cy : Nat → ClassId) (A : Nat → Prop) (U : State) (H : Heap) : Prop := EN D cy A U H ∧ va_Nc (kXn 2) (kXn 1) U ∧ va_Nc (kXn 3) (kXn 1) U ∧ va_Nc (kXn 3) (kXn 2) U
theorem EH_ok (D : va_G) (cy : Nat → ClassId) : EOK (EH D cy) := fun A B s U H0 H h hq hAB hW => ⟨EN_ok D cy A B s U H0 H h.1 hq hAB hW, va_Nc.moved hW.alike h.2.1, va_Nc.moved hW.alike h.2.2.1, va_Nc.moved hW.alike h.2.2.2⟩
theorem kMetH {l : Launch} {y : MethodName} {ws ws' : List Cond} {rm : Room} {Qc : (Nat → Prop) → Array Value → State → Outcome → State → Prop} {mc ms : Nat} {cc : ByteArray} {maxL : Nat} {ret : Option FieldType} {hh : List (Nat × Nat × Nat × Nat)} {D : va_G} {E : (Nat → Prop) → State → Heap → Prop} {av : List Value} {wc : va_W} {sz : Nat} {own : String}
    (hy : plainName y.cls = true) (hcl : y.cls = own) (hw : ws = Cond.codeWith y cc maxL ret hh :: ws') (hlen : (lg_sl av).length ≤ maxL)
    (body : ∀ (p : Program) (e : Env) (s : State) (m : MethodId) (args : Array Value) (below : List Frame) (meth : Method) (c : Code) (A : Nat → Prop), p.tables.exec = Jvm.exec → c.code = cc → meth.sig.returnType = ret → (∀ w ∈ ws, w.before args s = true) → s.vm.findClass own = some m.cls → c.maxLocals = maxL → meth.locks = false → c.exceptionTable.toList = tableOf hh → E A s s.heap → va_P D vwCl wc s.heap → va_D A wc → (∀ q, s.heap.size ≤ q → A q) → sz = s.heap.size →
      ∀ ls : Array Slot, lv_has ls maxL (lv_args 0 av) → W p l e rm s m args below meth c s.heap [] 0 0 (MQ below (Qc A) args s mc ms A) (F0 m 0 ls [])) : Met l y ws rm (kP E D av wc sz) (Qc (va_A wc sz)) mc ms (va_A wc sz) := by
  have h : vx_Met l y ws rm (kP E D av wc sz) (Qc (va_A wc sz)) (fun _ _ _ => False) mc ms (va_A wc sz) := by
    refine vx_ofWH (cc := cc) (maxL := maxL) (ret := ret) (hh := hh) hy hw ?_
    intro p e s m args below meth c s₁ B hml hv
    obtain ⟨rfl, hsz, hP, hD0, hE0⟩ := hv
    subst hsz
    have hl := lv_entry av (n := maxL) hlen
    have htab := vx_table (x := y) B (atoms_spec (ws := ws) B.pre _ (by rw [hw]; exact List.mem_cons_self))
    rw [lg_entry_eq]
    exact vx_ret (body p e s m _ below meth c (va_A wc s.heap.size) B.exec B.bytes B.returns (atoms_spec (ws := ws) B.pre) (by rw [← hcl]; exact findClass_of_methodNamed B.named) hml B.notSynchronized htab hE0 hP hD0.self (fun q h => Or.inr h) rfl _ hl)
  refine MetFree.mono h (fun _ _ h => h) (fun _ _ _ _ _ h => h) (fun a st o t _ hq => ?_)
  rcases hq with hq | ⟨q, -, EN, ce, L, hf, -⟩
  · exact hq
  · exact hf.elim
section KC2
variable {p : Program} {l : Launch} {e : Env} {R : Room} {s : State} {m : MethodId} {args : Array Value} {below : List Frame} {meth : Method} {c : Code} {H : Heap} {locs : List Loc} {Q : State → Prop}
variable {cc : ByteArray} {pc mc ms k : Nat} {ls : Array Slot} {rest st0 : List Value} {D : va_G} {A : Nat → Prop} {a : Array Value} {ws wc : va_W}
theorem kt_c (hr : vx_Run p l e R s m args below meth c H locs 0 0 1 6 (F0 m pc ls st0) rest (kTi (va_A wc H.size) a) (kXC D k wc (va_A wc H.size)) (va_A wc H.size)) (hP : va_P D vwCl ws H) (hD : va_D A ws) (hS : va_S A s.heap H locs) (hA : ∀ q, s.heap.size ≤ q → A q) (is ns : List Nat) (hC : is.map (fun i => ws[i]?) = wc.map some) (n2 : Nat) (hn : ws.length = n2) (hchk : wchk n2 is is ns = true)
    (kx : ∀ (q9 : Nat) (ce : Cell) (H1 : Heap) (locs1 : List Loc), va_P D vwCl ws H1 → va_D A ws → va_S A s.heap H1 locs1 → H1[q9]? = some ce → ce.vm = .none → s.vm.findClass (kXn k) = some ce.cls → vx_W p l e R s m args below meth c H1 locs1 1 6 Q (F0 m pc ls rest) q9) :
    W p l e R s m args below meth c H locs 0 0 Q (F0 m pc ls st0) := by
  refine vx_calli hr hS (fun q _ h => va_free hD hS hA is hC q h) (va_free hD hS hA is hC) (fun q _ h => va_free hD hS hA is hC q h) (fun E ce q9 u t H1 locs1 ht hvm _ hB _ hk hS1 hc1 hc2 hc3 => ?_) (fun r u t H1 locs1 _ _ hw => hw.elim)
  obtain ⟨hE, g1, g2⟩ := hB
  rw [ht] at g1
  obtain ⟨p1, p2⟩ := wjo_P hP hD is is ns hC hC (wfold_map _ _).symm n2 hn hchk hk (va_free hD hS hA is hC) g1 g2
  exact kx q9 ce H1 locs1 p1 p2 hS1 hc1 hc2 (by rw [← hE]; exact hc3)
end KC2
