/-! the law, from its entry to its end, out of what the numbers owe -/
/-- the start's numbers -/
def Start0 (R : St → LG → (Nat → LG) → Nat → Prop) : Prop := ∃ r28 r30 r32 hs, X4_begin (1 : Int32) (1 : Int32) (1 : Int32) (0 : Int32) (9 : Int32) (fun _ => 0) (fun _ => 0) (0 : Int32) (fun _ => 0) (0 : Int32) (3 : Int32) (0 : Int32) (fun _ => 0) (4 : Int32) (3 : Int32) (2 : Int32) = some r28 ∧ X0_addHole r28.2.2.2.1 (fun _ => 0) (fun _ => 0) (0 : Int32) (0 : Int32) = some r30 ∧ X5_update (fun _ => 0) (fun _ => 0) (fun _ => 0) (fun _ => 0) (fun _ => 0) r28.1 r28.2.1 r28.2.2.1 r30.1 r28.2.2.2.2.2.1 r28.2.2.2.2.2.2.1 r30.2.1 r30.2.2 = some r32 ∧ R (St0 r28 r30 r32) lay2 hs 0 ∧ OP_errorOffset (St0 r28 r30 r32) (-1) (St0 r28 r30 r32)
set_option maxHeartbeats 1200000 in
set_option maxRecDepth 20000 in
theorem law_all {p : Program} {l : Launch} {e : Env} {s : State} {m : MethodId} {below : List Frame} {meth : Method} {c : Code} {b L : Nat} {xs : Nat → Int32} {D : va_G} {cy : Nat → ClassId} {ad : Nat → Nat} {QQ : State → Prop} {R : St → LG → (Nat → LG) → Nat → Prop} (hN : NumOK R) (n15 : ∀ st G hs k, R st G hs k → k ≤ 8) (h0 : Start0 R) (C : LCx p l s m c b L xs D cy ad) (hL : L ≤ 3072)
    (K0 : ∀ (H : Heap) (locs : List Loc) (ls : Array Slot), va_S (fun q => s.heap.size ≤ q) s.heap H locs → lv_has ls 23 [(1, .int (1 : Int32))] → W p l e room_1 s m #[Value.ref b] below meth c H locs 600086 7301442 QQ (F0 m 973 ls [])) : W p l e room_1 s m #[Value.ref b] below meth c s.heap [] 0 0 QQ (entryFrame m ([Value.ref b] : List Value).toArray 23) := by
  obtain ⟨r28, r30, r32, hs, g29, g31, g33, hR, hE0⟩ := h0
  refine law_open r28 r30 r32 g29 g31 g33 C hL K0 (fun hL0 u qo H locs ls hP hD hS hl => ?_)
  obtain ⟨st, est⟩ : ∃ z : St, z = St0 r28 r30 r32 := ⟨_, rfl⟩
  rw [← est] at hP hD hR hE0
  clear est g29 g31 g33
  refine law_first C hL0 (hN.1 _ _ _ _ hR) hP hD hS hl (fun sd qb r Z H locs ls hP hD hS hl => ?_)
  refine law_chain C hN hR hE0 hP hD hS hl (fun st5 hs5 H locs ls hR5 hP hD hS hl => ?_)
  refine law_drawn C hN hR5 hP hD hS hl (fun a qP qU qH qG qV qB vT rP rH rG rL rN Z2 st2 H locs ls hR2 hI hP hD hS hl => ?_)
  refine W.widen (k := 5200 + 2600 * 0) (n := 400000 + 64000 * 0) (by omega) (by omega) ?_
  refine law_loop (c0 := 5200) (s0 := 400000) C hN (by omega) (by omega) (fun G2 hs2 k2 dn2 st2 sd2 qG2 rG2 va2 bf2 Z2 H locs ls hR hI hB hG hk hdn hP hD hS hl => ?_) 19 0 0 1 (hpush lay2 hs5) st2 (zL sd) (z9 sd) qG rG (fun _ => 0) (fun _ => none) Z2 H locs ls (by decide) (by decide) (Nat.le_refl _) hR2 hI (fun i _ => Or.inl rfl) (fun j hj => absurd hj (Nat.not_lt_zero j)) (Nat.zero_le _) hP hD hS hl
  refine law_undo (c0 := 5200 + 46800) (s0 := 400000 + 1152000) C hN n15 hR hI hB hG hk hdn (by omega) (by omega) hP hD hS hl (fun st1 G1 hs1 k1 H locs ls hR1 hP hD hS hl => ?_)
  refine law_fin (st := st2) (c0 := 5200 + 46800 + 200) (s0 := 400000 + 1152000 + 5000) (rP := rP) (rH := rH) (rL := rL) (rN := rN) C hN hR1 (by omega) (by omega) hP hD hS hl (fun H locs ls hS hl => ?_)
  exact W.widen (by omega) (by omega) (K0 H locs ls hS hl)
