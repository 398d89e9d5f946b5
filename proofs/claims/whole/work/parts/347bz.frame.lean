/-! THE LAW: the frame of a call that changes something, compared cell by cell once -/
def wkA : List Bool → va_W → va_W
  | false :: bs, w :: ws => w :: wkA bs ws
  | true :: bs, _ :: ws => wkA bs ws
  | _, _ => []
def wkB : List Bool → va_W → va_W
  | false :: bs, w :: ws => w :: wkB bs ws
  | true :: bs, _ :: ws => wkB bs ws
  | _, _ => []
theorem wk_same : ∀ (bs : List Bool) (w2 w : va_W), w2.length = bs.length → w.length = bs.length → wkA bs w2 = wkB bs w → ∀ k : Nat, bs[k]? = some false → w2[k]? = w[k]?
  | [], w2, w, h2, h, _, k, hk => by
    rw [List.getElem?_nil] at hk
    cases hk
  | _ :: _, [], _, h2, _, _, _, _ => by cases h2
  | _ :: _, _ :: _, [], _, h, _, _, _ => by cases h
  | false :: bs, x :: w2, y :: w, h2, h, e, k, hk => by
    have e1 : x :: wkA bs w2 = y :: wkB bs w := e
    obtain ⟨e2, e3⟩ := List.cons.inj e1
    cases k with
    | zero => rw [List.getElem?_cons_zero, List.getElem?_cons_zero, e2]
    | succ k =>
      rw [List.getElem?_cons_succ, List.getElem?_cons_succ]
      rw [List.getElem?_cons_succ] at hk
      exact wk_same bs w2 w (Nat.succ.inj h2) (Nat.succ.inj h) e3 k hk
  | true :: bs, x :: w2, y :: w, h2, h, e, k, hk => by
    have e1 : wkA bs w2 = wkB bs w := e
    cases k with
    | zero => rw [List.getElem?_cons_zero] at hk; cases hk
    | succ k =>
      rw [List.getElem?_cons_succ, List.getElem?_cons_succ]
      rw [List.getElem?_cons_succ] at hk
      exact wk_same bs w2 w (Nat.succ.inj h2) (Nat.succ.inj h) e1 k hk
theorem wk_map {ws ws2 : va_W} {ns : List Nat} (bs : List Bool) {n2 : Nat} (hb : bs.length = n2) (h0 : ws.length = n2) (hn : ws2.length = n2) (hF : wkA bs ws2 = wkB bs ws) (hns : ns.all (fun k => bs[k]? == some false) = true) : ns.map (fun i => ws2[i]?) = ns.foldr (fun i acc => ws[i]? :: acc) [] := by
  rw [wfold_map]
  refine List.map_congr_left (fun k hk => ?_)
  have h := List.all_eq_true.mp hns k hk
  exact wk_same bs ws2 ws (hn.trans hb.symm) (h0.trans hb.symm) hF k (eq_of_beq h)
section LK
variable {p : Program} {l : Launch} {e : Env} {R : Room} {s : State} {m : MethodId} {args : Array Value} {below : List Frame} {meth : Method} {c : Code} {H : Heap} {locs : List Loc} {cells slots : Nat} {Q : State → Prop}
variable {cc : ByteArray} {pc mc ms : Nat} {ls : Array Slot} {rest st0 : List Value} {D : va_G} {A : Nat → Prop} {a : Array Value} {ws wc w1 : va_W}
theorem ke_j {v : Int32} (ws2 : va_W) (bs : List Bool) (hr : va_Run p l e R s m args below meth c H locs cells slots mc ms (F0 m pc ls st0) rest (kQi D v w1 (va_A wc H.size) a) (va_A wc H.size)) (hP : va_P D vwCl ws H) (hD : va_D A ws) (hS : va_S A s.heap H locs) (hA : ∀ q, s.heap.size ≤ q → A q) (is ns : List Nat) (hC : is.map (fun i => ws[i]?) = wc.map some) (hJ1 : is.map (fun i => ws2[i]?) = w1.map some) (hF : wkA bs ws2 = wkB bs ws) (n2 : Nat) (hn : ws2.length = n2) (h0 : ws.length = n2) (hb : bs.length = n2) (hchk : (wchk n2 is is ns && ns.all (fun k => bs[k]? == some false)) = true)
    (kk : ∀ (H1 : Heap) (locs1 : List Loc), va_P D vwCl ws2 H1 → va_D A ws2 → va_S A s.heap H1 locs1 → W p l e R s m args below meth c H1 locs1 (cells + mc) (slots + ms) Q (F0 m (pc + 3) ls (.int v :: rest))) : W p l e R s m args below meth c H locs cells slots Q (F0 m pc ls st0) := by
  rw [Bool.and_eq_true] at hchk
  exact ke_i ws2 hr hP hD hS hA is ns hC hJ1 (wk_map bs hb h0 hn hF hchk.2) n2 hn hchk.1 kk
end LK
