/-! the law: its start (lawb.py) -/
theorem wjn_last {ws w1 : va_W} {x y : Nat × va_E} : wjn (ws ++ [x]) [ws.length] (y :: w1) = ws ++ y :: w1 := by
  unfold wjn
  show wset ((ws ++ [x]).set ws.length y) [] w1 ++ w1 = _
  have h : wset ((ws ++ [x]).set ws.length y) [] w1 = (ws ++ [x]).set ws.length y := by cases w1 <;> rfl
  rw [h, List.set_append_right _ _ (Nat.le_refl _), Nat.sub_self, List.set_cons_zero, List.append_assoc, List.singleton_append]
theorem wlast_P {A0 : Nat → Prop} {D : va_G} {cl : List vw_C} {ws w1 : va_W} {x y : Nat × va_E} {H H1 : Heap} (hP : va_P D cl (ws ++ [x]) H) (hD : va_D A0 (ws ++ [x]))
    (hk : ∀ q : Nat, q < H.size → ¬ va_A [x] H.size q → H1[q]? = H[q]?) (hF : ∀ q, va_A [x] H.size q → A0 q) (hP1 : va_P D cl (y :: w1) H1) (hD1 : va_D (va_A [x] H.size) (y :: w1)) : va_P D cl (ws ++ y :: w1) H1 ∧ va_D A0 (ws ++ y :: w1) := by
  have h := wjn_P hP hD [ws.length] (wc := [x]) (by simp) (by simp) hk hF hP1 hD1
  rw [wjn_last] at h
  exact h
set_option maxRecDepth 20000 in
def W6c (cy : Nat → ClassId) (q_o : Nat) (r28 : Int32 × Int32 × Int32 × Int32 × Int32 × (Nat → Int32) × (Nat → Int32) × Int32 × (Nat → Int32) × Int32 × Int32 × Int32 × (Nat → Int32)) (r30 : Int32 × (Nat → Int32) × (Nat → Int32)) (r32 : (Nat → Int32) × (Nat → Int32) × (Nat → Int32) × (Nat → Int32) × (Nat → Int32)) (u : Nat → Nat) : va_W := ((q_o, .inr (6, [.ref (u 0), .ref (u 14), .ref (u 26), .ref (u 38), .ref (u 44), .ref (u 50), .int (0 : Int32), .int (0 : Int32)])) :: ((u 0), .inr (3, [.ref (u 1), .int (0 : Int32), .int (0 : Int32), .int (-1 : Int32), .ref (u 13), .int (0 : Int32), .int (0 : Int32), .int (0 : Int32), .int (0 : Int32), .int (0 : Int32), .int (0 : Int32), .int (0 : Int32)])) :: ((u 1), .inr (4, [.ref (u 2), .ref (u 10)])) :: ((u 2), .inr (0, [.int (1 : Int32), .int (1 : Int32), .int (1 : Int32), .int (0 : Int32), .int (9 : Int32), .ref (u 3), .ref (u 4), .ref (u 5), .ref (u 6), .ref (u 7)])) :: ((u 3), .inl (cy 0, 480, .inl (fun _ => 0))) :: ((u 4), .inl (cy 0, 5, .inl (fun _ => 0))) :: ((u 5), .inl (cy 0, 4, .inl (fun _ => 0))) :: ((u 6), .inl (cy 0, 4, .inl (fun _ => 0))) :: ((u 7), .inr (2, [.ref (u 8), .int (0 : Int32), .ref (u 9)])) :: ((u 8), .inl (cy 0, 800, .inl (fun _ => 0))) :: ((u 9), .inl (cy 0, 16, .inl (fun _ => 0))) :: ((u 10), .inr (1, [.int (0 : Int32), .int (3 : Int32), .int (0 : Int32), .ref (u 11), .ref (u 12)])) :: ((u 11), .inl (cy 0, 4, .inl (fun _ => 0))) :: ((u 12), .inl (cy 0, 140, .inl (fun _ => 0))) :: ((u 13), .inl (cy 1, 800, .inl (fun _ => 0))) :: ((u 14), .inr (4, [.ref (u 15), .ref (u 23)])) :: ((u 15), .inr (0, [.int r28.1, .int r28.2.1, .int r28.2.2.1, .int r30.1, .int r28.2.2.2.2.1, .ref (u 16), .ref (u 17), .ref (u 18), .ref (u 19), .ref (u 20)])) :: ((u 16), .inl (cy 0, 480, .inl r28.2.2.2.2.2.1)) :: ((u 17), .inl (cy 0, 5, .inl r28.2.2.2.2.2.2.1)) :: ((u 18), .inl (cy 0, 4, .inl r30.2.1)) :: ((u 19), .inl (cy 0, 4, .inl r30.2.2)) :: ((u 20), .inr (2, [.ref (u 21), .int r28.2.2.2.2.2.2.2.1, .ref (u 22)])) :: ((u 21), .inl (cy 0, 800, .inl r28.2.2.2.2.2.2.2.2.1)) :: ((u 22), .inl (cy 0, 16, .inl (fun _ => 0))) :: ((u 23), .inr (1, [.int r28.2.2.2.2.2.2.2.2.2.1, .int r28.2.2.2.2.2.2.2.2.2.2.1, .int r28.2.2.2.2.2.2.2.2.2.2.2.1, .ref (u 24), .ref (u 25)])) :: ((u 24), .inl (cy 0, 4, .inl r28.2.2.2.2.2.2.2.2.2.2.2.2)) :: ((u 25), .inl (cy 0, 140, .inl (fun _ => 0))) :: ((u 26), .inr (4, [.ref (u 27), .ref (u 35)])) :: ((u 27), .inr (0, [.int (1 : Int32), .int (1 : Int32), .int (1 : Int32), .int (0 : Int32), .int (9 : Int32), .ref (u 28), .ref (u 29), .ref (u 30), .ref (u 31), .ref (u 32)])) :: ((u 28), .inl (cy 0, 480, .inl (fun _ => 0))) :: ((u 29), .inl (cy 0, 5, .inl (fun _ => 0))) :: ((u 30), .inl (cy 0, 4, .inl (fun _ => 0))) :: ((u 31), .inl (cy 0, 4, .inl (fun _ => 0))) :: ((u 32), .inr (2, [.ref (u 33), .int (0 : Int32), .ref (u 34)])) :: ((u 33), .inl (cy 0, 800, .inl (fun _ => 0))) :: ((u 34), .inl (cy 0, 16, .inl (fun _ => 0))) :: ((u 35), .inr (1, [.int (0 : Int32), .int (3 : Int32), .int (0 : Int32), .ref (u 36), .ref (u 37)])) :: ((u 36), .inl (cy 0, 4, .inl (fun _ => 0))) :: ((u 37), .inl (cy 0, 140, .inl (fun _ => 0))) :: ((u 38), .inr (5, [.ref (u 39), .ref (u 40), .ref (u 41), .ref (u 42), .ref (u 43)])) :: ((u 39), .inl (cy 0, 384, .inl r32.1)) :: ((u 40), .inl (cy 0, 104, .inl r32.2.1)) :: ((u 41), .inl (cy 0, 4, .inl r32.2.2.1)) :: ((u 42), .inl (cy 0, 4, .inl r32.2.2.2.1)) :: ((u 43), .inl (cy 0, 104, .inl r32.2.2.2.2)) :: ((u 44), .inr (5, [.ref (u 45), .ref (u 46), .ref (u 47), .ref (u 48), .ref (u 49)])) :: ((u 45), .inl (cy 0, 384, .inl (fun _ => 0))) :: ((u 46), .inl (cy 0, 104, .inl (fun _ => 0))) :: ((u 47), .inl (cy 0, 4, .inl (fun _ => 0))) :: ((u 48), .inl (cy 0, 4, .inl (fun _ => 0))) :: ((u 49), .inl (cy 0, 104, .inl (fun _ => 0))) :: ((u 50), .inl (cy 3, 8, .inr (.inr (.inr (.inr (va_up (va_up (va_up (va_up (va_up (va_up (va_up (va_up (fun _ => none) 0 (some (u 51))) 1 (some (u 63))) 2 (some (u 75))) 3 (some (u 87))) 4 (some (u 99))) 5 (some (u 111))) 6 (some (u 123))) 7 (some (u 135)))))))) :: ((u 51), .inr (4, [.ref (u 52), .ref (u 60)])) :: ((u 52), .inr (0, [.int (1 : Int32), .int (1 : Int32), .int (1 : Int32), .int (0 : Int32), .int (9 : Int32), .ref (u 53), .ref (u 54), .ref (u 55), .ref (u 56), .ref (u 57)])) :: ((u 53), .inl (cy 0, 480, .inl (fun _ => 0))) :: ((u 54), .inl (cy 0, 5, .inl (fun _ => 0))) :: ((u 55), .inl (cy 0, 4, .inl (fun _ => 0))) :: ((u 56), .inl (cy 0, 4, .inl (fun _ => 0))) :: ((u 57), .inr (2, [.ref (u 58), .int (0 : Int32), .ref (u 59)])) :: ((u 58), .inl (cy 0, 800, .inl (fun _ => 0))) :: ((u 59), .inl (cy 0, 16, .inl (fun _ => 0))) :: ((u 60), .inr (1, [.int (0 : Int32), .int (3 : Int32), .int (0 : Int32), .ref (u 61), .ref (u 62)])) :: ((u 61), .inl (cy 0, 4, .inl (fun _ => 0))) :: ((u 62), .inl (cy 0, 140, .inl (fun _ => 0))) :: ((u 63), .inr (4, [.ref (u 64), .ref (u 72)])) :: ((u 64), .inr (0, [.int (1 : Int32), .int (1 : Int32), .int (1 : Int32), .int (0 : Int32), .int (9 : Int32), .ref (u 65), .ref (u 66), .ref (u 67), .ref (u 68), .ref (u 69)])) :: ((u 65), .inl (cy 0, 480, .inl (fun _ => 0))) :: ((u 66), .inl (cy 0, 5, .inl (fun _ => 0))) :: ((u 67), .inl (cy 0, 4, .inl (fun _ => 0))) :: ((u 68), .inl (cy 0, 4, .inl (fun _ => 0))) :: ((u 69), .inr (2, [.ref (u 70), .int (0 : Int32), .ref (u 71)])) :: ((u 70), .inl (cy 0, 800, .inl (fun _ => 0))) :: ((u 71), .inl (cy 0, 16, .inl (fun _ => 0))) :: ((u 72), .inr (1, [.int (0 : Int32), .int (3 : Int32), .int (0 : Int32), .ref (u 73), .ref (u 74)])) :: ((u 73), .inl (cy 0, 4, .inl (fun _ => 0))) :: ((u 74), .inl (cy 0, 140, .inl (fun _ => 0))) :: ((u 75), .inr (4, [.ref (u 76), .ref (u 84)])) :: ((u 76), .inr (0, [.int (1 : Int32), .int (1 : Int32), .int (1 : Int32), .int (0 : Int32), .int (9 : Int32), .ref (u 77), .ref (u 78), .ref (u 79), .ref (u 80), .ref (u 81)])) :: ((u 77), .inl (cy 0, 480, .inl (fun _ => 0))) :: ((u 78), .inl (cy 0, 5, .inl (fun _ => 0))) :: ((u 79), .inl (cy 0, 4, .inl (fun _ => 0))) :: ((u 80), .inl (cy 0, 4, .inl (fun _ => 0))) :: ((u 81), .inr (2, [.ref (u 82), .int (0 : Int32), .ref (u 83)])) :: ((u 82), .inl (cy 0, 800, .inl (fun _ => 0))) :: ((u 83), .inl (cy 0, 16, .inl (fun _ => 0))) :: ((u 84), .inr (1, [.int (0 : Int32), .int (3 : Int32), .int (0 : Int32), .ref (u 85), .ref (u 86)])) :: ((u 85), .inl (cy 0, 4, .inl (fun _ => 0))) :: ((u 86), .inl (cy 0, 140, .inl (fun _ => 0))) :: ((u 87), .inr (4, [.ref (u 88), .ref (u 96)])) :: ((u 88), .inr (0, [.int (1 : Int32), .int (1 : Int32), .int (1 : Int32), .int (0 : Int32), .int (9 : Int32), .ref (u 89), .ref (u 90), .ref (u 91), .ref (u 92), .ref (u 93)])) :: ((u 89), .inl (cy 0, 480, .inl (fun _ => 0))) :: ((u 90), .inl (cy 0, 5, .inl (fun _ => 0))) :: ((u 91), .inl (cy 0, 4, .inl (fun _ => 0))) :: ((u 92), .inl (cy 0, 4, .inl (fun _ => 0))) :: ((u 93), .inr (2, [.ref (u 94), .int (0 : Int32), .ref (u 95)])) :: ((u 94), .inl (cy 0, 800, .inl (fun _ => 0))) :: ((u 95), .inl (cy 0, 16, .inl (fun _ => 0))) :: ((u 96), .inr (1, [.int (0 : Int32), .int (3 : Int32), .int (0 : Int32), .ref (u 97), .ref (u 98)])) :: ((u 97), .inl (cy 0, 4, .inl (fun _ => 0))) :: ((u 98), .inl (cy 0, 140, .inl (fun _ => 0))) :: ((u 99), .inr (4, [.ref (u 100), .ref (u 108)])) :: ((u 100), .inr (0, [.int (1 : Int32), .int (1 : Int32), .int (1 : Int32), .int (0 : Int32), .int (9 : Int32), .ref (u 101), .ref (u 102), .ref (u 103), .ref (u 104), .ref (u 105)])) :: ((u 101), .inl (cy 0, 480, .inl (fun _ => 0))) :: ((u 102), .inl (cy 0, 5, .inl (fun _ => 0))) :: ((u 103), .inl (cy 0, 4, .inl (fun _ => 0))) :: ((u 104), .inl (cy 0, 4, .inl (fun _ => 0))) :: ((u 105), .inr (2, [.ref (u 106), .int (0 : Int32), .ref (u 107)])) :: ((u 106), .inl (cy 0, 800, .inl (fun _ => 0))) :: ((u 107), .inl (cy 0, 16, .inl (fun _ => 0))) :: ((u 108), .inr (1, [.int (0 : Int32), .int (3 : Int32), .int (0 : Int32), .ref (u 109), .ref (u 110)])) :: ((u 109), .inl (cy 0, 4, .inl (fun _ => 0))) :: ((u 110), .inl (cy 0, 140, .inl (fun _ => 0))) :: ((u 111), .inr (4, [.ref (u 112), .ref (u 120)])) :: ((u 112), .inr (0, [.int (1 : Int32), .int (1 : Int32), .int (1 : Int32), .int (0 : Int32), .int (9 : Int32), .ref (u 113), .ref (u 114), .ref (u 115), .ref (u 116), .ref (u 117)])) :: ((u 113), .inl (cy 0, 480, .inl (fun _ => 0))) :: ((u 114), .inl (cy 0, 5, .inl (fun _ => 0))) :: ((u 115), .inl (cy 0, 4, .inl (fun _ => 0))) :: ((u 116), .inl (cy 0, 4, .inl (fun _ => 0))) :: ((u 117), .inr (2, [.ref (u 118), .int (0 : Int32), .ref (u 119)])) :: ((u 118), .inl (cy 0, 800, .inl (fun _ => 0))) :: ((u 119), .inl (cy 0, 16, .inl (fun _ => 0))) :: ((u 120), .inr (1, [.int (0 : Int32), .int (3 : Int32), .int (0 : Int32), .ref (u 121), .ref (u 122)])) :: ((u 121), .inl (cy 0, 4, .inl (fun _ => 0))) :: ((u 122), .inl (cy 0, 140, .inl (fun _ => 0))) :: ((u 123), .inr (4, [.ref (u 124), .ref (u 132)])) :: ((u 124), .inr (0, [.int (1 : Int32), .int (1 : Int32), .int (1 : Int32), .int (0 : Int32), .int (9 : Int32), .ref (u 125), .ref (u 126), .ref (u 127), .ref (u 128), .ref (u 129)])) :: ((u 125), .inl (cy 0, 480, .inl (fun _ => 0))) :: ((u 126), .inl (cy 0, 5, .inl (fun _ => 0))) :: ((u 127), .inl (cy 0, 4, .inl (fun _ => 0))) :: ((u 128), .inl (cy 0, 4, .inl (fun _ => 0))) :: ((u 129), .inr (2, [.ref (u 130), .int (0 : Int32), .ref (u 131)])) :: ((u 130), .inl (cy 0, 800, .inl (fun _ => 0))) :: ((u 131), .inl (cy 0, 16, .inl (fun _ => 0))) :: ((u 132), .inr (1, [.int (0 : Int32), .int (3 : Int32), .int (0 : Int32), .ref (u 133), .ref (u 134)])) :: ((u 133), .inl (cy 0, 4, .inl (fun _ => 0))) :: ((u 134), .inl (cy 0, 140, .inl (fun _ => 0))) :: ((u 135), .inr (4, [.ref (u 136), .ref (u 144)])) :: ((u 136), .inr (0, [.int (1 : Int32), .int (1 : Int32), .int (1 : Int32), .int (0 : Int32), .int (9 : Int32), .ref (u 137), .ref (u 138), .ref (u 139), .ref (u 140), .ref (u 141)])) :: ((u 137), .inl (cy 0, 480, .inl (fun _ => 0))) :: ((u 138), .inl (cy 0, 5, .inl (fun _ => 0))) :: ((u 139), .inl (cy 0, 4, .inl (fun _ => 0))) :: ((u 140), .inl (cy 0, 4, .inl (fun _ => 0))) :: ((u 141), .inr (2, [.ref (u 142), .int (0 : Int32), .ref (u 143)])) :: ((u 142), .inl (cy 0, 800, .inl (fun _ => 0))) :: ((u 143), .inl (cy 0, 16, .inl (fun _ => 0))) :: ((u 144), .inr (1, [.int (0 : Int32), .int (3 : Int32), .int (0 : Int32), .ref (u 145), .ref (u 146)])) :: ((u 145), .inl (cy 0, 4, .inl (fun _ => 0))) :: ((u 146), .inl (cy 0, 140, .inl (fun _ => 0))) :: [])
set_option maxRecDepth 100000 in
set_option maxHeartbeats 4000000 in
theorem W6c_CW (cy : Nat → ClassId) (qo : Nat) (r28 : Int32 × Int32 × Int32 × Int32 × Int32 × (Nat → Int32) × (Nat → Int32) × Int32 × (Nat → Int32) × Int32 × Int32 × Int32 × (Nat → Int32)) (r30 : Int32 × (Nat → Int32) × (Nat → Int32)) (r32 : (Nat → Int32) × (Nat → Int32) × (Nat → Int32) × (Nat → Int32) × (Nat → Int32)) (u : Nat → Nat) : W6c cy qo r28 r30 r32 u = [] ++ (CW cy u qo (St0 r28 r30 r32) ++ []) := rfl
theorem TxR_0 {f : Int32} {b : Nat → Int32} (hf : f = nI 0) : TxR [] f b (fun _ => 0) := by
  refine ⟨ascS_lit (by decide), by decide, hf, fun j hj => absurd hj (by decide +revert), rfl, fun q hq => ?_⟩
  rcases (show q = 0 ∨ q = 1 ∨ q = 2 ∨ q = 3 ∨ q = 4 by omega) with rfl | rfl | rfl | rfl | rfl <;> rfl
theorem pm_bg {α : Type} {x y : α} {X C Z : List α} : ((x :: y :: X) ++ (C ++ Z)).Perm ([x, y] ++ (C ++ (X ++ Z))) := by
  classical
  exact List.perm_iff_count.mpr (fun x => by simp only [List.count_append, List.count_cons, List.count_nil]; omega)
theorem pm_bg2 {α : Type} {x y : α} {C Z : List α} : ([x, y] ++ (C ++ Z)).Perm (([y] ++ (C ++ [x])) ++ Z) := by
  classical
  exact List.perm_iff_count.mpr (fun x => by simp only [List.count_append, List.count_cons, List.count_nil]; omega)
theorem pm_bg3 {α : Type} {e0 a b c d x : α} {C O Z0 Z : List α} : ((([e0] ++ [a, b, c, d]) ++ ((C ++ [x]) ++ (O ++ Z0))) ++ Z).Perm ([e0, a, b, c, d] ++ (C ++ (O ++ ([x] ++ Z0 ++ Z)))) := by
  classical
  exact List.perm_iff_count.mpr (fun x => by simp only [List.count_append, List.count_cons, List.count_nil]; omega)
theorem pm_bg4 {α : Type} {P C O Z : List α} {x : α} : ((P ++ (C ++ (O ++ Z))) ++ [x]).Perm ((P ++ [x]) ++ (C ++ (O ++ Z))) := by
  classical
  exact List.perm_iff_count.mpr (fun x => by simp only [List.count_append, List.count_cons, List.count_nil]; omega)
set_option maxHeartbeats 1200000 in
set_option maxRecDepth 100000 in
theorem law_open {p : Program} {l : Launch} {e : Env} {s : State} {m : MethodId} {below : List Frame} {meth : Method} {c : Code} {b L : Nat} {xs : Nat → Int32} {D : va_G} {cy : Nat → ClassId} {ad : Nat → Nat} {QQ : State → Prop} (r28 : Int32 × Int32 × Int32 × Int32 × Int32 × (Nat → Int32) × (Nat → Int32) × Int32 × (Nat → Int32) × Int32 × Int32 × Int32 × (Nat → Int32)) (r30 : Int32 × (Nat → Int32) × (Nat → Int32)) (r32 : (Nat → Int32) × (Nat → Int32) × (Nat → Int32) × (Nat → Int32) × (Nat → Int32)) (g29 : X4_begin (1 : Int32) (1 : Int32) (1 : Int32) (0 : Int32) (9 : Int32) (fun _ => 0) (fun _ => 0) (0 : Int32) (fun _ => 0) (0 : Int32) (3 : Int32) (0 : Int32) (fun _ => 0) (4 : Int32) (3 : Int32) (2 : Int32) = some r28) (g31 : X0_addHole r28.2.2.2.1 (fun _ => 0) (fun _ => 0) (0 : Int32) (0 : Int32) = some r30) (g33 : X5_update (fun _ => 0) (fun _ => 0) (fun _ => 0) (fun _ => 0) (fun _ => 0) r28.1 r28.2.1 r28.2.2.1 r30.1 r28.2.2.2.2.2.1 r28.2.2.2.2.2.2.1 r30.2.1 r30.2.2 = some r32) (C : LCx p l s m c b L xs D cy ad) (hL : L ≤ 3072) (K0 : ∀ (H : Heap) (locs : List Loc) (ls : Array Slot), va_S (fun q => s.heap.size ≤ q) s.heap H locs → lv_has ls 23 [(1, .int (1 : Int32))] → W p l e room_1 s m #[Value.ref b] below meth c H locs 600086 7301442 QQ (F0 m 973 ls [])) (K : L ≠ 0 → ∀ (u : Nat → Nat) (qo : Nat) (H : Heap) (locs : List Loc) (ls : Array Slot), va_P D vwCl ([] ++ (CW cy u qo (St0 r28 r30 r32) ++ [])) H → va_D (fun q => s.heap.size ≤ q) ([] ++ (CW cy u qo (St0 r28 r30 r32) ++ [])) → va_S (fun q => s.heap.size ≤ q) s.heap H locs → lv_has ls 23 [(3, .ref qo), (1, .int (1 : Int32)), (0, .ref b), (2, .int (0 : Int32))] → W p l e room_1 s m #[Value.ref b] below meth c H locs 200 20000 QQ (F0 m 27 ls [])) : W p l e room_1 s m #[Value.ref b] below meth c s.heap [] 0 0 QQ (entryFrame m ([Value.ref b] : List Value).toArray 23) := by
  obtain ⟨hx, hb, hml, hown, hts, hX, hbl, hEZ, hst⟩ := id C
  obtain ⟨⟨hEL, hDig, hVar, hNest⟩, hEW, hEH⟩ := id hEZ
  have hE := hEL.1
  have hL := hEL.2
  have hK := hE.1
  have hA : ∀ q : Nat, s.heap.size ≤ q → (fun q : Nat => s.heap.size ≤ q) q := fun _ h => h
  have k14 := hts (.classLink RL 14 RX6) (by decide +kernel)
  have nX6 := hts (.instantiable RX6 8) (by decide +kernel)
  have iRX6 := hts (.initialized RX6) (by decide +kernel)
  have inX6 : ∀ w ∈ wsX60, w ∈ wsL_law := by decide +kernel
  have l228 := hts (.methodLink RL 228 yX6_init) (by decide +kernel)
  have imX6_init := hts (.instanceMethod yX6_init) (by decide +kernel)
  have hS : va_S (fun q => s.heap.size ≤ q) s.heap s.heap [] := va_S.rf
  have hP : va_P D vwCl [] s.heap := fun k q h => by simp at h
  have hD : va_D (fun q => s.heap.size ≤ q) [] := ⟨fun i j p q h => by simp at h, fun k q h => by simp at h⟩
  have hl := lv_entry ([.ref b]) (n := 23) (Nat.le_of_ble_eq_true rfl)
  rw [lg_entry_eq]
  generalize (lg_sl ([.ref b]) ++ List.replicate (23 - (lg_sl ([.ref b])).length) Slot.unset).toArray = ls at hl ⊢
  have hl : lv_has ls 23 [(0, .ref b)] := hl
  refine lv_iconst (v := 1) hx hb dL_law_0 (by decide) ?_
  refine lv_istore_n (lv' := [(1, .int (1 : Int32)), (0, .ref b)]) hx hb dL_law_1 rfl hl (by decide) rfl (fun ls hl => ?_)
  refine lv_iconst (v := 0) hx hb dL_law_2 (by decide) ?_
  refine lv_istore_n (lv' := [(2, .int (0 : Int32)), (1, .int (1 : Int32)), (0, .ref b)]) hx hb dL_law_3 rfl hl (by decide) rfl (fun ls hl => ?_)
  refine lv_iload_n hx hb dL_law_4 rfl (lv_at hl 0 rfl) ?_
  refine lv_aload_n hx hb dL_law_5 rfl (lv_at hl 2 rfl) ?_
  refine va_slen hx hb hX hbl (Nat.not_le.mpr hbl) hS dL_law_6 ?_
  by_cases hL0 : L = 0
  · skip
    refine lv_icmp_ge (tgt := 973) hx hb dL_law_7 (by decide) (fun _ => ?_) (fun hbr1 => absurd ((by rw [hL0]; decide)) hbr1)
    refine W.widen (k := 600086) (n := 7301442) (Nat.le_of_ble_eq_true rfl) (Nat.le_of_ble_eq_true rfl) ?_
    exact K0 s.heap _ ls hS (lv_sub hl [1] rfl)
  · skip
    refine lv_icmp_ge (tgt := 973) hx hb dL_law_7 (by decide) (fun hbr1 => absurd hbr1 (nI_nle (n := L) (by omega) (by omega))) (fun _ => ?_)
    refine lv_iload_n hx hb dL_law_10 rfl (lv_at hl 0 rfl) ?_
    refine lv_iconst (v := 1) hx hb dL_law_11 (by decide) ?_
    refine lv_icmp_ge (tgt := 973) hx hb dL_law_12 (by decide) (fun hbr2 => absurd hbr2 ((by decide : ¬ ((1 : Int32) ≤ 0)))) (fun _ => ?_)
    refine lv_iload_n hx hb dL_law_15 rfl (lv_at hl 1 rfl) ?_
    refine lv_if_eq (tgt := 973) hx hb dL_law_16 (by decide) (fun hbr3 => absurd hbr3 ((by decide : ¬ ((1 : Int32) = 0)))) (fun _ => ?_)
    refine va_new (ci := 6) (fs := [.null, .null, .null, .null, .null, .null, .int 0, .int 0]) (C := RX6) (T := TX6) (N := 8) hx hb hts inX6 tyX6 tyX6_ok hown k14 nX6 iRX6 hK hP hD hS hA rfl (fun j hj => by rcases (show j = 0 ∨ j = 1 ∨ j = 2 ∨ j = 3 ∨ j = 4 ∨ j = 5 ∨ j = 6 ∨ j = 7 by omega) with rfl | rfl | rfl | rfl | rfl | rfl | rfl | rfl <;> rfl) (Nat.le_of_ble_eq_true rfl) (Nat.le_of_ble_eq_true rfl) dL_law_19 (fun qo H hP hD hS => ?_)
    have hP : va_P D vwCl ([(qo, .inr (6, [.null, .null, .null, .null, .null, .null, .int (0 : Int32), .int (0 : Int32)]))]) H := hP
    have hD : va_D (fun q => s.heap.size ≤ q) ([(qo, .inr (6, [.null, .null, .null, .null, .null, .null, .int (0 : Int32), .int (0 : Int32)]))]) := hD
    refine lv_dup hx hb dL_law_22 rfl ?_
    refine va_callv (va_runI (As := []) (rest := [.ref qo]) ⟨hx, hb, hml, hown, hts⟩ (c_X6_init qo H.size r28 g29 r30 g31 r32 g33) (cwI 0 hts gL_law_X6_init rfl rfl rfl iRX6 l228 imX6_init rfl kd_X6_init ⟨Nat.le_of_ble_eq_true rfl, Nat.le_of_ble_eq_true rfl⟩) ⟨kP_blind (EN_ok D cy) D _ _ _, kStart (EN_ok D cy) hE hP hD hS hA [0] rfl rfl _⟩ rfl rfl hl.1 rfl (lv_room (Nat.le_of_ble_eq_true rfl)) dL_law_23 ⟨Nat.le_of_ble_eq_true rfl, Nat.le_of_ble_eq_true rfl⟩) hS (fun q _ h => va_free hD hS hA [0] rfl q h) (va_free hD hS hA [0] rfl) (fun u t H1 locs1 ht hvm hw hB hz hk hS1 => ?_)
    obtain ⟨g1, g2⟩ := hB
    rw [ht] at g1
    obtain ⟨hP, hD⟩ : va_P D vwCl (W6c cy qo r28 r30 r32 u) H1 ∧ va_D (fun q => s.heap.size ≤ q) (W6c cy qo r28 r30 r32 u) := wlast_P (ws := []) hP hD hk (va_free hD hS hA [0] rfl) g1 g2
    clear g1 g2 hk hz hw hvm ht
    rw [W6c_CW] at hP hD
    refine lv_astore_n (lv' := [(3, .ref qo), (2, .int (0 : Int32)), (1, .int (1 : Int32)), (0, .ref b)]) hx hb dL_law_26 rfl hl (by decide) rfl (fun ls hl => ?_)
    refine W.widen (k := 200) (n := 20000) (Nat.le_of_ble_eq_true rfl) (Nat.le_of_ble_eq_true rfl) ?_
    exact K hL0 u qo H1 _ ls hP hD hS1 (lv_sub hl [0, 2, 3, 1] rfl)
set_option maxHeartbeats 1200000 in
set_option maxRecDepth 100000 in
theorem law_first {p : Program} {l : Launch} {e : Env} {s : State} {m : MethodId} {below : List Frame} {meth : Method} {c : Code} {b L : Nat} {xs : Nat → Int32} {D : va_G} {cy : Nat → ClassId} {ad : Nat → Nat} {QQ : State → Prop} {u : Nat → Nat} {qo : Nat} {st : St} (C : LCx p l s m c b L xs D cy ad) (hL0 : L ≠ 0) (hO : Agr st lay2) {H : Heap} {locs : List Loc} {ls : Array Slot} (hP : va_P D vwCl ([] ++ (CW cy u qo st ++ [])) H) (hD : va_D (fun q => s.heap.size ≤ q) ([] ++ (CW cy u qo st ++ []))) (hS : va_S (fun q => s.heap.size ≤ q) s.heap H locs) (hl : lv_has ls 23 [(3, .ref qo), (1, .int (1 : Int32)), (0, .ref b), (2, .int (0 : Int32))]) (K : ∀ (sd : Int32) (qb r : Nat) (Z : va_W) (H : Heap) (locs : List Loc) (ls : Array Slot), va_P D vwCl ([(qb, .inl (cy 0, 8, .inl (fun _ => (0 : Int32)))), (r, .inr (9, [.int sd]))] ++ (CW cy u qo st ++ Z)) H → va_D (fun q => s.heap.size ≤ q) ([(qb, .inl (cy 0, 8, .inl (fun _ => (0 : Int32)))), (r, .inr (9, [.int sd]))] ++ (CW cy u qo st ++ Z)) → va_S (fun q => s.heap.size ≤ q) s.heap H locs → lv_has ls 23 [(5, .ref r), (4, .ref qb), (3, .ref qo), (1, .int (1 : Int32)), (0, .ref b), (2, .int (0 : Int32))] → W p l e room_1 s m #[Value.ref b] below meth c H locs 1000 90000 QQ (F0 m 63 ls [])) : W p l e room_1 s m #[Value.ref b] below meth c H locs 200 20000 QQ (F0 m 27 ls []) := by
  obtain ⟨hx, hb, hml, hown, hts, hX, hbl, hEZ, hst⟩ := id C
  obtain ⟨⟨hEL, hDig, hVar, hNest⟩, hEW, hEH⟩ := id hEZ
  have hE := hEL.1
  have hL := hEL.2
  have hK := hE.1
  have hA : ∀ q : Nat, s.heap.size ≤ q → (fun q : Nat => s.heap.size ≤ q) q := fun _ h => h
  have inJ0 : ∀ w ∈ wsJ00, w ∈ wsL_law := by decide +kernel
  have aint := hts (.arrayClass .int) (by decide +kernel)
  have k109 := hts (.classLink RL 109 RX9) (by decide +kernel)
  have nX9 := hts (.instantiable RX9 1) (by decide +kernel)
  have iRX9 := hts (.initialized RX9) (by decide +kernel)
  have inX9 : ∀ w ∈ wsX90, w ∈ wsL_law := by decide +kernel
  have l229 := hts (.methodLink RL 229 yX9_init) (by decide +kernel)
  have imX9_init := hts (.instanceMethod yX9_init) (by decide +kernel)
  have k105 := hts (.classLink RL 105 RX10) (by decide +kernel)
  have nX10 := hts (.instantiable RX10 11) (by decide +kernel)
  have iRX10 := hts (.initialized RX10) (by decide +kernel)
  have inX10 : ∀ w ∈ wsX100, w ∈ wsL_law := by decide +kernel
  have imX10_init := hts (.instanceMethod yX10_init) (by decide +kernel)
  refine lv_bipush (v := 8) hx hb dL_law_27 (by decide) ?_
  refine kn_newi (N' := 8) hx hb aint hK hP hD hS hA (by decide) (by decide) (by decide) (by show (200 + 1) ≤ 600086; omega) (by show (20000 + 8) ≤ 7301442; omega) dL_law_29 (fun qb H hP hD hS => ?_)
  have hP := va_P.swap hP
  have hD := va_D.swap hD
  have hP : va_P D vwCl ([(qb, .inl (cy 0, 8, .inl (fun _ => (0 : Int32))))] ++ (CW cy u qo st ++ [])) H := hP
  have hD : va_D (fun q => s.heap.size ≤ q) ([(qb, .inl (cy 0, 8, .inl (fun _ => (0 : Int32))))] ++ (CW cy u qo st ++ [])) := hD
  refine lv_astore (lv' := [(4, .ref qb), (3, .ref qo), (1, .int (1 : Int32)), (0, .ref b), (2, .int (0 : Int32))]) hx hb dL_law_31 hl (by decide) rfl (fun ls hl => ?_)
  refine va_new (ci := 9) (fs := [.int 0]) (C := RX9) (T := TX9) (N := 1) hx hb hts inX9 tyX9 tyX9_ok hown k109 nX9 iRX9 hK hP hD hS hA rfl (fun j hj => by rcases (show j = 0 by omega) with rfl <;> rfl) (by show ((200 + 1) + 1) ≤ 600086; omega) (by show ((20000 + 8) + 1) ≤ 7301442; omega) dL_law_33 (fun r H hP hD hS => ?_)
  have hP := va_P.swap hP
  have hD := va_D.swap hD
  have hP : va_P D vwCl ([(qb, .inl (cy 0, 8, .inl (fun _ => (0 : Int32)))), (r, .inr (9, [.int (0 : Int32)]))] ++ (CW cy u qo st ++ [])) H := hP
  have hD : va_D (fun q => s.heap.size ≤ q) ([(qb, .inl (cy 0, 8, .inl (fun _ => (0 : Int32)))), (r, .inr (9, [.int (0 : Int32)]))] ++ (CW cy u qo st ++ [])) := hD
  refine lv_dup hx hb dL_law_36 rfl ?_
  refine lv_aload_n hx hb dL_law_37 rfl (lv_at hl 3 rfl) ?_
  refine lv_iload_n hx hb dL_law_38 rfl (lv_at hl 4 rfl) ?_
  refine va_sld hx hb hX hbl (Nat.not_le.mpr hbl) hS (fun q => q.elim (by decide) (fun q => absurd (Nat.le_zero.mp (show L ≤ 0 from q)) hL0)) dL_law_39 ?_
  obtain ⟨sd, esd⟩ : ∃ z : Int32, z = xs (0 : Int32).toNatClampNeg := ⟨_, rfl⟩
  rw [← esd]
  refine kc_v (va_runI (As := [.int sd]) (rest := [.ref r]) ⟨hx, hb, hml, hown, hts⟩ (c_X9_init r H.size sd) (cwI 1 hts gL_law_X9_init rfl rfl rfl iRX9 l229 imX9_init rfl kd_X9_init ⟨Nat.le_of_ble_eq_true rfl, Nat.le_of_ble_eq_true rfl⟩) ⟨kP_blind (EN_ok D cy) D _ _ _, kStart (EN_ok D cy) hE hP hD hS hA [1] rfl rfl _⟩ rfl rfl hl.1 rfl (lv_room (Nat.le_of_ble_eq_true rfl)) dL_law_40 ⟨by show ((200 + 1) + 1) + 0 ≤ 600086; omega, by show ((20000 + 8) + 1) + 0 ≤ 7301442; omega⟩) hP hD hS hA [1] rfl (Nat.le_refl _) (fun H locs hP hD hS => ?_)
  rw [wjn_1] at hP hD
  have hP : va_P D vwCl ([(qb, .inl (cy 0, 8, .inl (fun _ => (0 : Int32)))), (r, .inr (9, [.int sd]))] ++ (CW cy u qo st ++ [])) H := hP
  have hD : va_D (fun q => s.heap.size ≤ q) ([(qb, .inl (cy 0, 8, .inl (fun _ => (0 : Int32)))), (r, .inr (9, [.int sd]))] ++ (CW cy u qo st ++ [])) := hD
  refine lv_astore (lv' := [(5, .ref r), (4, .ref qb), (3, .ref qo), (1, .int (1 : Int32)), (0, .ref b), (2, .int (0 : Int32))]) hx hb dL_law_43 hl (by decide) rfl (fun ls hl => ?_)
  refine lv_aload_n hx hb dL_law_45 rfl (lv_at hl 2 rfl) ?_
  refine va_new (ci := 10) (fs := [.int 0, .int 0, .int 0, .int 0, .int 0, .null, .null, .null, .null, .null, .null]) (C := RX10) (T := TX10) (N := 11) hx hb hts inX10 tyX10 tyX10_ok hown k105 nX10 iRX10 hK hP hD hS hA rfl (fun j hj => by rcases (show j = 0 ∨ j = 1 ∨ j = 2 ∨ j = 3 ∨ j = 4 ∨ j = 5 ∨ j = 6 ∨ j = 7 ∨ j = 8 ∨ j = 9 ∨ j = 10 by omega) with rfl | rfl | rfl | rfl | rfl | rfl | rfl | rfl | rfl | rfl | rfl <;> rfl) (by show (((200 + 1) + 1) + 1) ≤ 600086; omega) (by show (((20000 + 8) + 1) + 11) ≤ 7301442; omega) dL_law_46 (fun a H hP hD hS => ?_)
  have hP := va_P.swap hP
  have hD := va_D.swap hD
  have hP : va_P D vwCl ([(qb, .inl (cy 0, 8, .inl (fun _ => (0 : Int32)))), (r, .inr (9, [.int sd])), (a, .inr (10, [.int (0 : Int32), .int (0 : Int32), .int (0 : Int32), .int (0 : Int32), .int (0 : Int32), .null, .null, .null, .null, .null, .null]))] ++ (CW cy u qo st ++ [])) H := hP
  have hD : va_D (fun q => s.heap.size ≤ q) ([(qb, .inl (cy 0, 8, .inl (fun _ => (0 : Int32)))), (r, .inr (9, [.int sd])), (a, .inr (10, [.int (0 : Int32), .int (0 : Int32), .int (0 : Int32), .int (0 : Int32), .int (0 : Int32), .null, .null, .null, .null, .null, .null]))] ++ (CW cy u qo st ++ [])) := hD
  refine lv_dup hx hb dL_law_49 rfl ?_
  refine kc_E (va_runIN (As := []) (rest := [.ref a, .ref qo]) ⟨hx, hb, hml, hown, hts⟩ (c_X10_init a H.size) ⟨va_cnB 0 hts gL_law_X10_init_n107 rfl rfl rfl (hE.2.1 (RL, 107, yX10_init, "PeepBoxLaw") (List.mem_of_getElem? (i := 12) rfl)) iRX10 kd_X10_init ⟨Nat.le_of_ble_eq_true rfl, Nat.le_of_ble_eq_true rfl⟩, rfl, imX10_init⟩ ⟨kP_blind (EW_ok D cy) D _ _ _, kStart (EW_ok D cy) hEW hP hD hS hA [2] rfl rfl _⟩ rfl rfl hl.1 rfl (lv_room (Nat.le_of_ble_eq_true rfl)) dL_law_50 ⟨by show (((200 + 1) + 1) + 1) + 6 ≤ 600086; omega, by show (((20000 + 8) + 1) + 11) + 7 ≤ 7301442; omega⟩) hP hD hS hA [2] rfl (fun _ => Nat.le_of_ble_eq_true rfl) (fun v0 H locs _ hP hD hS => ?_)
  have hP : va_P D vwCl (([(qb, .inl (cy 0, 8, .inl (fun _ => (0 : Int32)))), (r, .inr (9, [.int sd])), (a, .inr (10, [.int (4 : Int32), .int (3 : Int32), .int (9 : Int32), .int (3 : Int32), .int (0 : Int32), .ref (v0 0), .ref (v0 1), .ref (v0 2), .ref (v0 4), .null, .ref (v0 5)]))] ++ (CW cy u qo st ++ [])) ++ [((v0 0), .inl (cy 7, 0, .inr (.inr (.inr (.inr (fun _ => none)))))), ((v0 1), .inl (cy 0, 0, .inl (fun _ => (0 : Int32)))), ((v0 2), .inl (cy 4, 1, .inr (.inr (.inr (.inr (fun i => some ((fun _ => v0 3) i))))))), ((v0 3), .inl (cy 0, 2, .inl (fun _ => (0 : Int32)))), ((v0 4), .inl (cy 8, 0, .inr (.inr (.inr (.inr (fun _ => none)))))), ((v0 5), .inl (cy 2, 4, .inr (.inl (fun _ => (0 : Int64)))))]) H := hP
  have hD : va_D (fun q => s.heap.size ≤ q) (([(qb, .inl (cy 0, 8, .inl (fun _ => (0 : Int32)))), (r, .inr (9, [.int sd])), (a, .inr (10, [.int (4 : Int32), .int (3 : Int32), .int (9 : Int32), .int (3 : Int32), .int (0 : Int32), .ref (v0 0), .ref (v0 1), .ref (v0 2), .ref (v0 4), .null, .ref (v0 5)]))] ++ (CW cy u qo st ++ [])) ++ [((v0 0), .inl (cy 7, 0, .inr (.inr (.inr (.inr (fun _ => none)))))), ((v0 1), .inl (cy 0, 0, .inl (fun _ => (0 : Int32)))), ((v0 2), .inl (cy 4, 1, .inr (.inr (.inr (.inr (fun i => some ((fun _ => v0 3) i))))))), ((v0 3), .inl (cy 0, 2, .inl (fun _ => (0 : Int32)))), ((v0 4), .inl (cy 8, 0, .inr (.inr (.inr (.inr (fun _ => none)))))), ((v0 5), .inl (cy 2, 4, .inr (.inl (fun _ => (0 : Int64)))))]) := hD
  have hP := va_P.swap hP
  have hD := va_D.swap hD
  have hP : va_P D vwCl ([(qb, .inl (cy 0, 8, .inl (fun _ => (0 : Int32)))), (r, .inr (9, [.int sd])), (a, .inr (10, [.int (4 : Int32), .int (3 : Int32), .int (9 : Int32), .int (3 : Int32), .int (0 : Int32), .ref (v0 0), .ref (v0 1), .ref (v0 2), .ref (v0 4), .null, .ref (v0 5)])), ((v0 0), .inl (cy 7, 0, .inr (.inr (.inr (.inr (fun _ => none)))))), ((v0 1), .inl (cy 0, 0, .inl (fun _ => (0 : Int32)))), ((v0 2), .inl (cy 4, 1, .inr (.inr (.inr (.inr (fun i => some ((fun _ => v0 3) i))))))), ((v0 3), .inl (cy 0, 2, .inl (fun _ => (0 : Int32)))), ((v0 4), .inl (cy 8, 0, .inr (.inr (.inr (.inr (fun _ => none)))))), ((v0 5), .inl (cy 2, 4, .inr (.inl (fun _ => (0 : Int64)))))] ++ (CW cy u qo st ++ [])) H := hP
  have hD : va_D (fun q => s.heap.size ≤ q) ([(qb, .inl (cy 0, 8, .inl (fun _ => (0 : Int32)))), (r, .inr (9, [.int sd])), (a, .inr (10, [.int (4 : Int32), .int (3 : Int32), .int (9 : Int32), .int (3 : Int32), .int (0 : Int32), .ref (v0 0), .ref (v0 1), .ref (v0 2), .ref (v0 4), .null, .ref (v0 5)])), ((v0 0), .inl (cy 7, 0, .inr (.inr (.inr (.inr (fun _ => none)))))), ((v0 1), .inl (cy 0, 0, .inl (fun _ => (0 : Int32)))), ((v0 2), .inl (cy 4, 1, .inr (.inr (.inr (.inr (fun i => some ((fun _ => v0 3) i))))))), ((v0 3), .inl (cy 0, 2, .inl (fun _ => (0 : Int32)))), ((v0 4), .inl (cy 8, 0, .inr (.inr (.inr (.inr (fun _ => none)))))), ((v0 5), .inl (cy 2, 4, .inr (.inl (fun _ => (0 : Int64)))))] ++ (CW cy u qo st ++ [])) := hD
  refine lv_iconst (v := 2) hx hb dL_law_53 (by decide) ?_
  refine kc_R (va_runV (As := [.int (2 : Int32)]) (rest := [.ref qo]) ⟨hx, hb, hml, hown, hts⟩ (c_X10_lay a 2 4 3 H.size (9 : Int32) (3 : Int32) (0 : Int32) (.ref (v0 0)) (.ref (v0 1)) (.ref (v0 2)) (.ref (v0 4)) (.null) (.ref (v0 5)) (by decide) (by decide) (by decide) (by decide)) (cwV 1 hts gL_law_X10_lay rfl rfl rfl kd_X10_lay ⟨Nat.le_of_ble_eq_true rfl, Nat.le_of_ble_eq_true rfl⟩) ⟨kP_blind (EW_ok D cy) D _ _ _, va_recv hK hP (ci := 10) (q0 := 2) rfl rfl, kStart (EW_ok D cy) hEW hP hD hS hA [2] rfl rfl _⟩ rfl rfl hl.1 rfl (lv_room (Nat.le_of_ble_eq_true rfl)) dL_law_54 ⟨by show ((((200 + 1) + 1) + 1) + 6) + 610 ≤ 600086; omega, by show ((((20000 + 8) + 1) + 11) + 7) + 60100 ≤ 7301442; omega⟩) hP hD hS hA [2] rfl (fun _ _ => Nat.le_of_ble_eq_true rfl) (fun u5 a9 H locs hu hP hD hS => ?_)
  obtain ⟨qP, qU, rP, rL, G0⟩ := u5
  obtain ⟨rfl, hlay⟩ := hu
  have hP : va_P D vwCl (([(qb, .inl (cy 0, 8, .inl (fun _ => (0 : Int32)))), (r, .inr (9, [.int sd])), (a9, .inr (10, [.int (nI 4), .int (nI 3), .int (9 : Int32), .int (3 : Int32), .int (0 : Int32), .ref qP, .ref qU, .ref (v0 2), .ref (v0 4), .null, .ref (v0 5)])), ((v0 0), .inl (cy 7, 0, .inr (.inr (.inr (.inr (fun _ => none)))))), ((v0 1), .inl (cy 0, 0, .inl (fun _ => (0 : Int32)))), ((v0 2), .inl (cy 4, 1, .inr (.inr (.inr (.inr (fun i => some ((fun _ => v0 3) i))))))), ((v0 3), .inl (cy 0, 2, .inl (fun _ => (0 : Int32)))), ((v0 4), .inl (cy 8, 0, .inr (.inr (.inr (.inr (fun _ => none)))))), ((v0 5), .inl (cy 2, 4, .inr (.inl (fun _ => (0 : Int64)))))] ++ (CW cy u qo st ++ [])) ++ ([(qP, refsE (cy 7) 2 rP), (qU, .inl (cy 0, 2, .inl (fun _ => 0)))] ++ (rl 2 rP (fun q => refsE (cy 6) 3 (rL q)) ++ G0))) H := hP
  have hD : va_D (fun q => s.heap.size ≤ q) (([(qb, .inl (cy 0, 8, .inl (fun _ => (0 : Int32)))), (r, .inr (9, [.int sd])), (a9, .inr (10, [.int (nI 4), .int (nI 3), .int (9 : Int32), .int (3 : Int32), .int (0 : Int32), .ref qP, .ref qU, .ref (v0 2), .ref (v0 4), .null, .ref (v0 5)])), ((v0 0), .inl (cy 7, 0, .inr (.inr (.inr (.inr (fun _ => none)))))), ((v0 1), .inl (cy 0, 0, .inl (fun _ => (0 : Int32)))), ((v0 2), .inl (cy 4, 1, .inr (.inr (.inr (.inr (fun i => some ((fun _ => v0 3) i))))))), ((v0 3), .inl (cy 0, 2, .inl (fun _ => (0 : Int32)))), ((v0 4), .inl (cy 8, 0, .inr (.inr (.inr (.inr (fun _ => none)))))), ((v0 5), .inl (cy 2, 4, .inr (.inl (fun _ => (0 : Int64)))))] ++ (CW cy u qo st ++ [])) ++ ([(qP, refsE (cy 7) 2 rP), (qU, .inl (cy 0, 2, .inl (fun _ => 0)))] ++ (rl 2 rP (fun q => refsE (cy 6) 3 (rL q)) ++ G0))) := hD
  obtain ⟨Z1, eZ1⟩ : ∃ z : va_W, z = ([] : va_W) ++ ([(qP, refsE (cy 7) 2 rP), (qU, .inl (cy 0, 2, .inl (fun _ => 0)))] ++ (rl 2 rP (fun q => refsE (cy 6) 3 (rL q)) ++ G0)) := ⟨_, rfl⟩
  have e8 : ([(qb, .inl (cy 0, 8, .inl (fun _ => (0 : Int32)))), (r, .inr (9, [.int sd])), (a9, .inr (10, [.int (nI 4), .int (nI 3), .int (9 : Int32), .int (3 : Int32), .int (0 : Int32), .ref qP, .ref qU, .ref (v0 2), .ref (v0 4), .null, .ref (v0 5)])), ((v0 0), .inl (cy 7, 0, .inr (.inr (.inr (.inr (fun _ => none)))))), ((v0 1), .inl (cy 0, 0, .inl (fun _ => (0 : Int32)))), ((v0 2), .inl (cy 4, 1, .inr (.inr (.inr (.inr (fun i => some ((fun _ => v0 3) i))))))), ((v0 3), .inl (cy 0, 2, .inl (fun _ => (0 : Int32)))), ((v0 4), .inl (cy 8, 0, .inr (.inr (.inr (.inr (fun _ => none)))))), ((v0 5), .inl (cy 2, 4, .inr (.inl (fun _ => (0 : Int64)))))] ++ (CW cy u qo st ++ [])) ++ ([(qP, refsE (cy 7) 2 rP), (qU, .inl (cy 0, 2, .inl (fun _ => 0)))] ++ (rl 2 rP (fun q => refsE (cy 6) 3 (rL q)) ++ G0)) = [(qb, .inl (cy 0, 8, .inl (fun _ => (0 : Int32)))), (r, .inr (9, [.int sd])), (a9, .inr (10, [.int (nI 4), .int (nI 3), .int (9 : Int32), .int (3 : Int32), .int (0 : Int32), .ref qP, .ref qU, .ref (v0 2), .ref (v0 4), .null, .ref (v0 5)])), ((v0 0), .inl (cy 7, 0, .inr (.inr (.inr (.inr (fun _ => none)))))), ((v0 1), .inl (cy 0, 0, .inl (fun _ => (0 : Int32)))), ((v0 2), .inl (cy 4, 1, .inr (.inr (.inr (.inr (fun i => some ((fun _ => v0 3) i))))))), ((v0 3), .inl (cy 0, 2, .inl (fun _ => (0 : Int32)))), ((v0 4), .inl (cy 8, 0, .inr (.inr (.inr (.inr (fun _ => none)))))), ((v0 5), .inl (cy 2, 4, .inr (.inl (fun _ => (0 : Int64)))))] ++ (CW cy u qo st ++ Z1) := by rw [eZ1, List.append_assoc, List.append_assoc]
  rw [e8] at hP hD
  obtain ⟨hP, hD⟩ := refs_refit (k := 7) (g := fun i => some ((fun _ => (0 : Nat)) i)) hP hD rfl (fun i hi => absurd hi (Nat.not_lt_zero i))
  have hP : va_P D vwCl ([(qb, .inl (cy 0, 8, .inl (fun _ => (0 : Int32)))), (r, .inr (9, [.int sd])), (a9, .inr (10, [.int (nI 4), .int (nI 3), .int (9 : Int32), .int (3 : Int32), .int (0 : Int32), .ref qP, .ref qU, .ref (v0 2), .ref (v0 4), .null, .ref (v0 5)])), ((v0 0), .inl (cy 7, 0, .inr (.inr (.inr (.inr (fun _ => none)))))), ((v0 1), .inl (cy 0, 0, .inl (fun _ => (0 : Int32)))), ((v0 2), .inl (cy 4, 1, .inr (.inr (.inr (.inr (fun i => some ((fun _ => v0 3) i))))))), ((v0 3), .inl (cy 0, 2, .inl (fun _ => (0 : Int32)))), ((v0 4), .inl (cy 8, 0, .inr (.inr (.inr (.inr (fun i => some ((fun _ => (0 : Nat)) i))))))), ((v0 5), .inl (cy 2, 4, .inr (.inl (fun _ => (0 : Int64)))))] ++ (CW cy u qo st ++ Z1)) H := hP
  have hD : va_D (fun q => s.heap.size ≤ q) ([(qb, .inl (cy 0, 8, .inl (fun _ => (0 : Int32)))), (r, .inr (9, [.int sd])), (a9, .inr (10, [.int (nI 4), .int (nI 3), .int (9 : Int32), .int (3 : Int32), .int (0 : Int32), .ref qP, .ref qU, .ref (v0 2), .ref (v0 4), .null, .ref (v0 5)])), ((v0 0), .inl (cy 7, 0, .inr (.inr (.inr (.inr (fun _ => none)))))), ((v0 1), .inl (cy 0, 0, .inl (fun _ => (0 : Int32)))), ((v0 2), .inl (cy 4, 1, .inr (.inr (.inr (.inr (fun i => some ((fun _ => v0 3) i))))))), ((v0 3), .inl (cy 0, 2, .inl (fun _ => (0 : Int32)))), ((v0 4), .inl (cy 8, 0, .inr (.inr (.inr (.inr (fun i => some ((fun _ => (0 : Nat)) i))))))), ((v0 5), .inl (cy 2, 4, .inr (.inl (fun _ => (0 : Int64)))))] ++ (CW cy u qo st ++ Z1)) := hD
  have hGI : GI cy lay2 qP (v0 2) .null rP (fun _ => v0 3) rL (fun _ => 0) ([(qb, .inl (cy 0, 8, .inl (fun _ => (0 : Int32)))), (r, .inr (9, [.int sd])), (a9, .inr (10, [.int (nI 4), .int (nI 3), .int (9 : Int32), .int (3 : Int32), .int (0 : Int32), .ref qP, .ref qU, .ref (v0 2), .ref (v0 4), .null, .ref (v0 5)])), ((v0 0), .inl (cy 7, 0, .inr (.inr (.inr (.inr (fun _ => none)))))), ((v0 1), .inl (cy 0, 0, .inl (fun _ => (0 : Int32)))), ((v0 2), .inl (cy 4, 1, .inr (.inr (.inr (.inr (fun i => some ((fun _ => v0 3) i))))))), ((v0 3), .inl (cy 0, 2, .inl (fun _ => (0 : Int32)))), ((v0 4), .inl (cy 8, 0, .inr (.inr (.inr (.inr (fun i => some ((fun _ => (0 : Nat)) i))))))), ((v0 5), .inl (cy 2, 4, .inr (.inl (fun _ => (0 : Int64)))))] ++ Z1) := ⟨List.mem_append_right _ (by rw [eZ1, List.nil_append]; exact List.mem_append_left _ List.mem_cons_self), fun p hp => List.mem_append_right _ (by rw [eZ1, List.nil_append]; exact List.mem_append_right _ (List.mem_append_left _ (List.mem_of_getElem? (rl_at hp)))), fun p hp y hy => (hlay p hp y hy).mono (fun z hz => List.mem_append_right _ (by rw [eZ1, List.nil_append]; exact List.mem_append_right _ (List.mem_append_right _ hz))), List.mem_append_left _ (List.mem_of_getElem? (i := 5) rfl), fun k hk => List.mem_append_left _ (List.mem_of_getElem? (i := 6) rfl), (if_pos rfl).symm, fun h0 => absurd rfl h0⟩
  refine wq_agrees (G := lay2) (qV := v0 5) C hO (fun U hU hW => ⟨env_at (EN_ok D cy) hE hD hS hA hW, qP, qU, v0 2, v0 4, .null, rP, (fun _ => v0 3), (fun _ => 0), rL, (fun _ => 0), GF_of hts inJ0 hK hW (ro_mid hP hD) hGI (List.mem_append_left _ (List.mem_of_getElem? (i := 2) rfl)) (List.mem_append_right _ (by rw [eZ1, List.nil_append]; exact List.mem_append_left _ (List.mem_cons_of_mem _ List.mem_cons_self))) (List.mem_append_left _ (List.mem_of_getElem? (i := 7) rfl)) (fun k hk => absurd hk (Nat.not_lt_zero k))⟩) hP hD hS hl dL_law_57 (by omega) (by omega) (fun H locs hP hD hS => ?_)
  refine lv_if_eq (tgt := 198) hx hb dL_law_60 (by decide) (fun hbr1 => absurd hbr1 ((by decide : ¬ ((1 : Int32) = 0)))) (fun _ => ?_)
  have hP := hP.perm pm_bg
  have hD := hD.perm pm_bg
  refine W.widen (k := 1000) (n := 90000) (Nat.le_of_ble_eq_true rfl) (Nat.le_of_ble_eq_true rfl) ?_
  exact K sd qb r _ H _ ls hP hD hS (lv_sub hl [0, 1, 2, 3, 4, 5] rfl)
set_option maxHeartbeats 1200000 in
set_option maxRecDepth 100000 in
theorem law_chain {p : Program} {l : Launch} {e : Env} {s : State} {m : MethodId} {below : List Frame} {meth : Method} {c : Code} {b L : Nat} {xs : Nat → Int32} {D : va_G} {cy : Nat → ClassId} {ad : Nat → Nat} {QQ : State → Prop} {u : Nat → Nat} {qo qb r : Nat} {st : St} {sd : Int32} {Z : va_W} (C : LCx p l s m c b L xs D cy ad) {R : St → LG → (Nat → LG) → Nat → Prop} (hN : NumOK R) {hs : Nat → LG} (hR : R st lay2 hs 0) (hE0 : OP_errorOffset st (-1) st) {H : Heap} {locs : List Loc} {ls : Array Slot} (hP : va_P D vwCl ([(qb, .inl (cy 0, 8, .inl (fun _ => (0 : Int32)))), (r, .inr (9, [.int sd]))] ++ (CW cy u qo st ++ Z)) H) (hD : va_D (fun q => s.heap.size ≤ q) ([(qb, .inl (cy 0, 8, .inl (fun _ => (0 : Int32)))), (r, .inr (9, [.int sd]))] ++ (CW cy u qo st ++ Z))) (hS : va_S (fun q => s.heap.size ≤ q) s.heap H locs) (hl : lv_has ls 23 [(5, .ref r), (4, .ref qb), (3, .ref qo), (1, .int (1 : Int32)), (0, .ref b), (2, .int (0 : Int32))]) (K : ∀ (st5 : St) (hs5 : Nat → LG) (H : Heap) (locs : List Loc) (ls : Array Slot), R st5 lay2 hs5 0 → va_P D vwCl ([(qb, .inl (cy 0, 8, .inl (fun _ => (0 : Int32)))), (r, .inr (9, [.int sd]))] ++ (CW cy u qo st5 ++ Z)) H → va_D (fun q => s.heap.size ≤ q) ([(qb, .inl (cy 0, 8, .inl (fun _ => (0 : Int32)))), (r, .inr (9, [.int sd]))] ++ (CW cy u qo st5 ++ Z)) → va_S (fun q => s.heap.size ≤ q) s.heap H locs → lv_has ls 23 [(5, .ref r), (4, .ref qb), (3, .ref qo), (1, .int (1 : Int32)), (0, .ref b), (2, .int (0 : Int32))] → W p l e room_1 s m #[Value.ref b] below meth c H locs 1100 91000 QQ (F0 m 200 ls [])) : W p l e room_1 s m #[Value.ref b] below meth c H locs 1000 90000 QQ (F0 m 63 ls []) := by
  obtain ⟨hx, hb, hml, hown, hts, hX, hbl, hEZ, hst⟩ := id C
  obtain ⟨⟨hEL, hDig, hVar, hNest⟩, hEW, hEH⟩ := id hEZ
  have hE := hEL.1
  have hL := hEL.2
  have hK := hE.1
  have hA : ∀ q : Nat, s.heap.size ≤ q → (fun q : Nat => s.heap.size ≤ q) q := fun _ h => h
  have c90 := hts (.constant RL 90 (-2000000099)) (by decide +kernel)
  have c42 := hts (.constant RL 42 (-2000000098)) (by decide +kernel)
  have c52 := hts (.constant RL 52 (-2000000097)) (by decide +kernel)
  obtain ⟨n1, n2, n3, n4, n5, n6, n7, n8, n9, n10, n11, n12, n13, n14⟩ := id hN
  refine lv_aload_n hx hb dL_law_63 rfl (lv_at hl 2 rfl) ?_
  refine wq_errorOffset C hE0 hP hD hS hl dL_law_64 (by omega) (by omega) (fun H locs hP hD hS => ?_)
  have hP : va_P D vwCl ([(qb, .inl (cy 0, 8, .inl (fun _ => (0 : Int32)))), (r, .inr (9, [.int sd]))] ++ (CW cy u qo st ++ Z)) H := hP
  have hD : va_D (fun q => s.heap.size ≤ q) ([(qb, .inl (cy 0, 8, .inl (fun _ => (0 : Int32)))), (r, .inr (9, [.int sd]))] ++ (CW cy u qo st ++ Z)) := hD
  refine lv_iconst (v := -1) hx hb dL_law_67 (by decide) ?_
  refine lv_icmp_ne (tgt := 198) hx hb dL_law_68 (by decide) (fun hbr1 => absurd (rfl) hbr1) (fun _ => ?_)
  obtain ⟨st1, hO1, hR1⟩ := n11 st lay2 hs hR
  refine lv_aload_n hx hb dL_law_71 rfl (lv_at hl 2 rfl) ?_
  refine wq_undo C hO1 hP hD hS hl dL_law_72 (by omega) (by omega) (fun H locs hP hD hS => ?_)
  have hP : va_P D vwCl ([(qb, .inl (cy 0, 8, .inl (fun _ => (0 : Int32)))), (r, .inr (9, [.int sd]))] ++ (CW cy u qo st1 ++ Z)) H := hP
  have hD : va_D (fun q => s.heap.size ≤ q) ([(qb, .inl (cy 0, 8, .inl (fun _ => (0 : Int32)))), (r, .inr (9, [.int sd]))] ++ (CW cy u qo st1 ++ Z)) := hD
  refine lv_iconst (v := -1) hx hb dL_law_75 (by decide) ?_
  refine lv_icmp_ne (tgt := 198) hx hb dL_law_76 (by decide) (fun hbr2 => absurd (rfl) hbr2) (fun _ => ?_)
  have q5 := fun p r h1 h2 => n5 st1 lay2 hs 0 p r hR1 h1 h2
  have q7 := fun t w c h1 h2 h3 => n7 st1 lay2 hs 0 t w c hR1 h1 h2 h3
  refine lv_aload_n hx hb dL_law_79 rfl (lv_at hl 2 rfl) ?_
  refine lv_iconst (v := 1) hx hb dL_law_80 (by decide) ?_
  refine lv_iconst (v := 0) hx hb dL_law_81 (by decide) ?_
  refine wq_pull C ((q5 1 0 (by decide) (by decide)).2.2 rfl (by decide)) hP hD hS hl dL_law_82 (by omega) (by omega) (fun H locs hP hD hS => ?_)
  have hP : va_P D vwCl ([(qb, .inl (cy 0, 8, .inl (fun _ => (0 : Int32)))), (r, .inr (9, [.int sd]))] ++ (CW cy u qo st1 ++ Z)) H := hP
  have hD : va_D (fun q => s.heap.size ≤ q) ([(qb, .inl (cy 0, 8, .inl (fun _ => (0 : Int32)))), (r, .inr (9, [.int sd]))] ++ (CW cy u qo st1 ++ Z)) := hD
  refine lv_ldc (v := -2000000099) hx hb hown c90 dL_law_85 ?_
  refine lv_icmp_ne (tgt := 198) hx hb dL_law_87 (by decide) (fun hbr3 => absurd (rfl) hbr3) (fun _ => ?_)
  refine lv_aload_n hx hb dL_law_90 rfl (lv_at hl 2 rfl) ?_
  refine lv_iconst (v := 0) hx hb dL_law_91 (by decide) ?_
  refine lv_iconst (v := 4) hx hb dL_law_92 (by decide) ?_
  refine wq_pull C ((q5 0 4 (by decide) (by decide)).2.1 (by decide) (by decide)) hP hD hS hl dL_law_93 (by omega) (by omega) (fun H locs hP hD hS => ?_)
  have hP : va_P D vwCl ([(qb, .inl (cy 0, 8, .inl (fun _ => (0 : Int32)))), (r, .inr (9, [.int sd]))] ++ (CW cy u qo st1 ++ Z)) H := hP
  have hD : va_D (fun q => s.heap.size ≤ q) ([(qb, .inl (cy 0, 8, .inl (fun _ => (0 : Int32)))), (r, .inr (9, [.int sd]))] ++ (CW cy u qo st1 ++ Z)) := hD
  refine lv_ldc (v := -2000000098) hx hb hown c42 dL_law_96 ?_
  refine lv_icmp_ne (tgt := 198) hx hb dL_law_98 (by decide) (fun hbr4 => absurd (rfl) hbr4) (fun _ => ?_)
  refine lv_aload_n hx hb dL_law_101 rfl (lv_at hl 2 rfl) ?_
  refine lv_iconst (v := 2) hx hb dL_law_102 (by decide) ?_
  refine lv_iconst (v := 0) hx hb dL_law_103 (by decide) ?_
  refine wq_pull C ((q5 2 0 (by decide) (by decide)).1 (by decide)) hP hD hS hl dL_law_104 (by omega) (by omega) (fun H locs hP hD hS => ?_)
  have hP : va_P D vwCl ([(qb, .inl (cy 0, 8, .inl (fun _ => (0 : Int32)))), (r, .inr (9, [.int sd]))] ++ (CW cy u qo st1 ++ Z)) H := hP
  have hD : va_D (fun q => s.heap.size ≤ q) ([(qb, .inl (cy 0, 8, .inl (fun _ => (0 : Int32)))), (r, .inr (9, [.int sd]))] ++ (CW cy u qo st1 ++ Z)) := hD
  refine lv_ldc (v := -2000000097) hx hb hown c52 dL_law_107 ?_
  refine lv_icmp_ne (tgt := 198) hx hb dL_law_109 (by decide) (fun hbr5 => absurd (rfl) hbr5) (fun _ => ?_)
  refine lv_aload_n hx hb dL_law_112 rfl (lv_at hl 2 rfl) ?_
  refine lv_bipush (v := 10) hx hb dL_law_113 (by decide) ?_
  refine lv_iconst (v := 0) hx hb dL_law_115 (by decide) ?_
  refine lv_iconst (v := 0) hx hb dL_law_116 (by decide) ?_
  refine wq_come C ((q7 10 0 0 (by decide) (by decide) (by decide)).1 (Or.inl (by decide))) hP hD hS hl dL_law_117 (by omega) (by omega) (fun H locs hP hD hS => ?_)
  have hP : va_P D vwCl ([(qb, .inl (cy 0, 8, .inl (fun _ => (0 : Int32)))), (r, .inr (9, [.int sd]))] ++ (CW cy u qo st1 ++ Z)) H := hP
  have hD : va_D (fun q => s.heap.size ≤ q) ([(qb, .inl (cy 0, 8, .inl (fun _ => (0 : Int32)))), (r, .inr (9, [.int sd]))] ++ (CW cy u qo st1 ++ Z)) := hD
  refine lv_ldc (v := -2000000098) hx hb hown c42 dL_law_120 ?_
  refine lv_icmp_ne (tgt := 198) hx hb dL_law_122 (by decide) (fun hbr6 => absurd (rfl) hbr6) (fun _ => ?_)
  refine lv_aload_n hx hb dL_law_125 rfl (lv_at hl 2 rfl) ?_
  refine lv_iconst (v := 0) hx hb dL_law_126 (by decide) ?_
  refine lv_bipush (v := 26) hx hb dL_law_127 (by decide) ?_
  refine lv_iconst (v := 0) hx hb dL_law_129 (by decide) ?_
  refine wq_come C ((q7 0 26 0 (by decide) (by decide) (by decide)).1 (Or.inr (by decide))) hP hD hS hl dL_law_130 (by omega) (by omega) (fun H locs hP hD hS => ?_)
  have hP : va_P D vwCl ([(qb, .inl (cy 0, 8, .inl (fun _ => (0 : Int32)))), (r, .inr (9, [.int sd]))] ++ (CW cy u qo st1 ++ Z)) H := hP
  have hD : va_D (fun q => s.heap.size ≤ q) ([(qb, .inl (cy 0, 8, .inl (fun _ => (0 : Int32)))), (r, .inr (9, [.int sd]))] ++ (CW cy u qo st1 ++ Z)) := hD
  refine lv_ldc (v := -2000000098) hx hb hown c42 dL_law_133 ?_
  refine lv_icmp_ne (tgt := 198) hx hb dL_law_135 (by decide) (fun hbr7 => absurd (rfl) hbr7) (fun _ => ?_)
  refine lv_aload_n hx hb dL_law_138 rfl (lv_at hl 2 rfl) ?_
  refine lv_bipush (v := 21) hx hb dL_law_139 (by decide) ?_
  refine wq_length C (n9 st1 lay2 hs 0 21 hR1 (by decide) (Or.inr (by decide))) hP hD hS hl dL_law_141 (by omega) (by omega) (fun H locs hP hD hS => ?_)
  have hP : va_P D vwCl ([(qb, .inl (cy 0, 8, .inl (fun _ => (0 : Int32)))), (r, .inr (9, [.int sd]))] ++ (CW cy u qo st1 ++ Z)) H := hP
  have hD : va_D (fun q => s.heap.size ≤ q) ([(qb, .inl (cy 0, 8, .inl (fun _ => (0 : Int32)))), (r, .inr (9, [.int sd]))] ++ (CW cy u qo st1 ++ Z)) := hD
  refine lv_ldc (v := -2000000098) hx hb hown c42 dL_law_144 ?_
  refine lv_icmp_ne (tgt := 198) hx hb dL_law_146 (by decide) (fun hbr8 => absurd (rfl) hbr8) (fun _ => ?_)
  refine lv_aload_n hx hb dL_law_149 rfl (lv_at hl 2 rfl) ?_
  refine lv_bipush (v := 51) hx hb dL_law_150 (by decide) ?_
  refine wq_pass C (n12 st1 lay2 hs 0 hR1) hP hD hS hl dL_law_152 (by omega) (by omega) (fun H locs hP hD hS => ?_)
  have hP : va_P D vwCl ([(qb, .inl (cy 0, 8, .inl (fun _ => (0 : Int32)))), (r, .inr (9, [.int sd]))] ++ (CW cy u qo st1 ++ Z)) H := hP
  have hD : va_D (fun q => s.heap.size ≤ q) ([(qb, .inl (cy 0, 8, .inl (fun _ => (0 : Int32)))), (r, .inr (9, [.int sd]))] ++ (CW cy u qo st1 ++ Z)) := hD
  refine lv_ldc (v := -2000000098) hx hb hown c42 dL_law_155 ?_
  refine lv_icmp_ne (tgt := 198) hx hb dL_law_157 (by decide) (fun hbr9 => absurd (rfl) hbr9) (fun _ => ?_)
  obtain ⟨st2, hO2, hR2⟩ := n6 st1 lay2 hs 0 0 0 5 hR1 (by decide) (by decide) (by decide) (by decide)
  refine lv_aload_n hx hb dL_law_160 rfl (lv_at hl 2 rfl) ?_
  refine lv_iconst (v := 0) hx hb dL_law_161 (by decide) ?_
  refine lv_iconst (v := 0) hx hb dL_law_162 (by decide) ?_
  refine lv_iconst (v := 5) hx hb dL_law_163 (by decide) ?_
  refine wq_come C hO2 hP hD hS hl dL_law_164 (by omega) (by omega) (fun H locs hP hD hS => ?_)
  have hP : va_P D vwCl ([(qb, .inl (cy 0, 8, .inl (fun _ => (0 : Int32)))), (r, .inr (9, [.int sd]))] ++ (CW cy u qo st2 ++ Z)) H := hP
  have hD : va_D (fun q => s.heap.size ≤ q) ([(qb, .inl (cy 0, 8, .inl (fun _ => (0 : Int32)))), (r, .inr (9, [.int sd]))] ++ (CW cy u qo st2 ++ Z)) := hD
  refine lv_if_ne (tgt := 198) hx hb dL_law_167 (by decide) (fun hbr10 => absurd ((by decide : nI (shZ lay2 4) = 0)) hbr10) (fun _ => ?_)
  obtain ⟨st3, hO3, hR3⟩ := n8 st2 _ _ _ 1 hR2 (by decide) (by decide)
  refine lv_aload_n hx hb dL_law_170 rfl (lv_at hl 2 rfl) ?_
  refine lv_iconst (v := 1) hx hb dL_law_171 (by decide) ?_
  refine wq_length C hO3 hP hD hS hl dL_law_172 (by omega) (by omega) (fun H locs hP hD hS => ?_)
  have hP : va_P D vwCl ([(qb, .inl (cy 0, 8, .inl (fun _ => (0 : Int32)))), (r, .inr (9, [.int sd]))] ++ (CW cy u qo st3 ++ Z)) H := hP
  have hD : va_D (fun q => s.heap.size ≤ q) ([(qb, .inl (cy 0, 8, .inl (fun _ => (0 : Int32)))), (r, .inr (9, [.int sd]))] ++ (CW cy u qo st3 ++ Z)) := hD
  refine lv_iconst (v := 3) hx hb dL_law_175 (by decide) ?_
  refine lv_icmp_ne (tgt := 198) hx hb dL_law_176 (by decide) (fun hbr11 => absurd (rfl) hbr11) (fun _ => ?_)
  obtain ⟨st4, hO4, hR4⟩ := n10 st3 _ _ 1 hR3
  refine lv_aload_n hx hb dL_law_179 rfl (lv_at hl 2 rfl) ?_
  refine wq_undo C hO4 hP hD hS hl dL_law_180 (by omega) (by omega) (fun H locs hP hD hS => ?_)
  have hP : va_P D vwCl ([(qb, .inl (cy 0, 8, .inl (fun _ => (0 : Int32)))), (r, .inr (9, [.int sd]))] ++ (CW cy u qo st4 ++ Z)) H := hP
  have hD : va_D (fun q => s.heap.size ≤ q) ([(qb, .inl (cy 0, 8, .inl (fun _ => (0 : Int32)))), (r, .inr (9, [.int sd]))] ++ (CW cy u qo st4 ++ Z)) := hD
  refine lv_iconst (v := 1) hx hb dL_law_183 (by decide) ?_
  refine lv_icmp_ne (tgt := 198) hx hb dL_law_184 (by decide) (fun hbr12 => absurd (rfl) hbr12) (fun _ => ?_)
  obtain ⟨st5, hO5, hR5⟩ := n10 st4 _ _ 0 hR4
  refine lv_aload_n hx hb dL_law_187 rfl (lv_at hl 2 rfl) ?_
  refine wq_undo C hO5 hP hD hS hl dL_law_188 (by omega) (by omega) (fun H locs hP hD hS => ?_)
  have hP : va_P D vwCl ([(qb, .inl (cy 0, 8, .inl (fun _ => (0 : Int32)))), (r, .inr (9, [.int sd]))] ++ (CW cy u qo st5 ++ Z)) H := hP
  have hD : va_D (fun q => s.heap.size ≤ q) ([(qb, .inl (cy 0, 8, .inl (fun _ => (0 : Int32)))), (r, .inr (9, [.int sd]))] ++ (CW cy u qo st5 ++ Z)) := hD
  refine lv_if_ne (tgt := 198) hx hb dL_law_191 (by decide) (fun hbr13 => absurd ((by decide : (0 : Int32) = 0)) hbr13) (fun _ => ?_)
  refine lv_iconst (v := 1) hx hb dL_law_194 (by decide) ?_
  refine lv_goto (tgt := 199) hx hb dL_law_195 (by decide) ?_
  refine lv_istore_n (lv' := [(1, .int (1 : Int32)), (5, .ref r), (4, .ref qb), (3, .ref qo), (0, .ref b), (2, .int (0 : Int32))]) hx hb dL_law_199 rfl hl (by decide) rfl (fun ls hl => ?_)
  refine W.widen (k := 1100) (n := 91000) (Nat.le_of_ble_eq_true rfl) (Nat.le_of_ble_eq_true rfl) ?_
  exact K st5 _ H _ ls hR5 hP hD hS (lv_sub hl [1, 2, 3, 0, 4, 5] rfl)
set_option maxHeartbeats 1200000 in
set_option maxRecDepth 100000 in
theorem law_drawn {p : Program} {l : Launch} {e : Env} {s : State} {m : MethodId} {below : List Frame} {meth : Method} {c : Code} {b L : Nat} {xs : Nat → Int32} {D : va_G} {cy : Nat → ClassId} {ad : Nat → Nat} {QQ : State → Prop} {u : Nat → Nat} {qo qb r : Nat} {st : St} {sd : Int32} {Z : va_W} (C : LCx p l s m c b L xs D cy ad) {R : St → LG → (Nat → LG) → Nat → Prop} (hN : NumOK R) {hs : Nat → LG} (hR : R st lay2 hs 0) {H : Heap} {locs : List Loc} {ls : Array Slot} (hP : va_P D vwCl ([(qb, .inl (cy 0, 8, .inl (fun _ => (0 : Int32)))), (r, .inr (9, [.int sd]))] ++ (CW cy u qo st ++ Z)) H) (hD : va_D (fun q => s.heap.size ≤ q) ([(qb, .inl (cy 0, 8, .inl (fun _ => (0 : Int32)))), (r, .inr (9, [.int sd]))] ++ (CW cy u qo st ++ Z))) (hS : va_S (fun q => s.heap.size ≤ q) s.heap H locs) (hl : lv_has ls 23 [(5, .ref r), (4, .ref qb), (3, .ref qo), (1, .int (1 : Int32)), (0, .ref b), (2, .int (0 : Int32))]) (K : ∀ (a qP qU qH qG qV qB : Nat) (vT : Value) (rP rH rG : Nat → Nat) (rL : Nat → Nat → Nat) (rN : Nat → Nat) (Z2 : va_W) (st2 : St) (H : Heap) (locs : List Loc) (ls : Array Slot), R st2 (zL sd) (hpush lay2 hs) 1 → GI cy (zL sd) qP qH vT rP rH rL rN Z2 → va_P D vwCl ([(r, .inr (9, [.int (z9 sd)])), (a, .inr (10, [.int (nI (shZ (zL sd) 0)), .int (nI (shZ (zL sd) 1)), .int (shI (zL sd) 0), .int (shI (zL sd) 1), .int (shI (zL sd) 2), .ref qP, .ref qU, .ref qH, .ref qG, vT, .ref qV])), (qU, .inl (cy 0, (shZ (zL sd) 2), .inl (shP (zL sd)))), (qG, .inl (cy 8, (shZ (zL sd) 4), .inr (.inr (.inr (.inr (fun i => some (rG i))))))), (qV, .inl (cy 2, 4, .inr (.inl (fun _ => (0 : Int64))))), (qB, .inl (cy 9, 9, .inr (.inr (.inr (.inr (fun _ => none))))))] ++ (CW cy u qo st2 ++ (rl (shZ (zL sd) 4) rG (fun i => guestE (shG (zL sd) i)) ++ Z2))) H → va_D (fun q => s.heap.size ≤ q) ([(r, .inr (9, [.int (z9 sd)])), (a, .inr (10, [.int (nI (shZ (zL sd) 0)), .int (nI (shZ (zL sd) 1)), .int (shI (zL sd) 0), .int (shI (zL sd) 1), .int (shI (zL sd) 2), .ref qP, .ref qU, .ref qH, .ref qG, vT, .ref qV])), (qU, .inl (cy 0, (shZ (zL sd) 2), .inl (shP (zL sd)))), (qG, .inl (cy 8, (shZ (zL sd) 4), .inr (.inr (.inr (.inr (fun i => some (rG i))))))), (qV, .inl (cy 2, 4, .inr (.inl (fun _ => (0 : Int64))))), (qB, .inl (cy 9, 9, .inr (.inr (.inr (.inr (fun _ => none))))))] ++ (CW cy u qo st2 ++ (rl (shZ (zL sd) 4) rG (fun i => guestE (shG (zL sd) i)) ++ Z2))) → va_S (fun q => s.heap.size ≤ q) s.heap H locs → lv_has ls 23 [(9, .int (nI 0)), (8, .int (nI 0)), (7, .ref qB), (6, .ref a), (5, .ref r), (4, .ref qb), (3, .ref qo), (1, .int (1 : Int32)), (0, .ref b), (2, .int (0 : Int32))] → W p l e room_1 s m #[Value.ref b] below meth c H locs 5200 400000 QQ (F0 m 249 ls [])) : W p l e room_1 s m #[Value.ref b] below meth c H locs 1100 91000 QQ (F0 m 200 ls []) := by
  obtain ⟨hx, hb, hml, hown, hts, hX, hbl, hEZ, hst⟩ := id C
  obtain ⟨⟨hEL, hDig, hVar, hNest⟩, hEW, hEH⟩ := id hEZ
  have hE := hEL.1
  have hL := hEL.2
  have hK := hE.1
  have hA : ∀ q : Nat, s.heap.size ≤ q → (fun q : Nat => s.heap.size ≤ q) q := fun _ h => h
  have inJ0 : ∀ w ∈ wsJ00, w ∈ wsL_law := by decide +kernel
  have kl105 := hts (.classLink RL 105 "PeepBoxLaw$Show") (by decide +kernel)
  obtain ⟨n1, n2, n3, n4, n5, n6, n7, n8, n9, n10, n11, n12, n13, n14⟩ := id hN
  have hf0 := (n2 st lay2 hs 0 hR).2.2.2
  refine lv_aload_n hx hb dL_law_200 rfl (lv_at hl 2 rfl) ?_
  refine lv_aload hx hb dL_law_201 (lv_at hl 1 rfl) ?_
  refine lv_aload hx hb dL_law_203 (lv_at hl 0 rfl) ?_
  have hP : va_P D vwCl (([(r, .inr (9, [.int sd]))] ++ CWB cy u qo st qb (fun _ => 0)) ++ Z) H := hP.perm pm_bg2
  have hD : va_D (fun q => s.heap.size ≤ q) (([(r, .inr (9, [.int sd]))] ++ CWB cy u qo st qb (fun _ => 0)) ++ Z) := hD.perm pm_bg2
  obtain ⟨PR, ePR⟩ : ∃ P9 : St → (Nat → Int32) → Prop, P9 = fun st2 _ => R st2 (zL sd) (hpush lay2 hs) 1 := ⟨_, rfl⟩
  refine kp_R (va_runS (As := [.ref qo, .ref qb, .ref r]) (rest := []) ⟨hx, hb, hml, hown, hts⟩ (c_L_randomShow (ad := ad) u qo qb r H.size sd st (TxR_0 hf0) PR (fun f b B hT => by rw [ePR]; exact n14 st lay2 hs 0 sd f b B hR hT)) (va_cwS 3 hts gL_law_L_randomShow rfl rfl rfl kd_L_randomShow ⟨Nat.le_of_ble_eq_true rfl, Nat.le_of_ble_eq_true rfl⟩) ⟨kP_blind (EZ_ok D cy ad) D _ _ _, kpStart (EZ_ok D cy ad) hEZ hP hD hS hA _⟩ rfl rfl hl.1 rfl (lv_room (Nat.le_of_ble_eq_true rfl)) dL_law_205 ⟨by show 1100 + 4000 ≤ 600086; omega, by show 91000 + 300000 ≤ 7301442; omega⟩) hP hD hS hA (fun x a H locs hx9 hP hD hS => ?_)
  obtain ⟨st2, B2, uq, vT, rP, rH, rG, rL, rN, Z0⟩ := x
  obtain ⟨hR2, hI⟩ := hx9
  rw [ePR] at hR2
  have hP := hP.perm pm_bg3
  have hD := hD.perm pm_bg3
  obtain ⟨Z2, eZ2⟩ : ∃ z : va_W, z = [(qb, (.inl (cy 0, 8, .inl B2) : va_E))] ++ Z0 ++ Z := ⟨_, rfl⟩
  rw [← eZ2] at hP hD
  have hI : GI cy (zL sd) (uq 0) (uq 2) vT rP rH rL rN Z2 := hI.mono (fun z hz => by rw [eZ2]; exact List.mem_append_left _ (List.mem_append_right _ hz))
  obtain ⟨qP, eqP⟩ : ∃ z : Nat, z = uq 0 := ⟨_, rfl⟩
  obtain ⟨qU, eqU⟩ : ∃ z : Nat, z = uq 1 := ⟨_, rfl⟩
  obtain ⟨qH, eqH⟩ : ∃ z : Nat, z = uq 2 := ⟨_, rfl⟩
  obtain ⟨qG, eqG⟩ : ∃ z : Nat, z = uq 3 := ⟨_, rfl⟩
  obtain ⟨qV, eqV⟩ : ∃ z : Nat, z = uq 4 := ⟨_, rfl⟩
  have hP : va_P D vwCl ([(r, .inr (9, [.int (z9 sd)])), (a, .inr (10, [.int (nI (shZ (zL sd) 0)), .int (nI (shZ (zL sd) 1)), .int (shI (zL sd) 0), .int (shI (zL sd) 1), .int (shI (zL sd) 2), .ref qP, .ref qU, .ref qH, .ref qG, vT, .ref qV])), (qU, .inl (cy 0, (shZ (zL sd) 2), .inl (shP (zL sd)))), (qG, .inl (cy 8, (shZ (zL sd) 4), .inr (.inr (.inr (.inr (fun i => some (rG i))))))), (qV, .inl (cy 2, 4, .inr (.inl (fun _ => (0 : Int64)))))] ++ (CW cy u qo st2 ++ (rl (shZ (zL sd) 4) rG (fun i => guestE (shG (zL sd) i)) ++ Z2))) H := by rw [eqP, eqU, eqH, eqG, eqV]; exact hP
  have hD : va_D (fun q => s.heap.size ≤ q) ([(r, .inr (9, [.int (z9 sd)])), (a, .inr (10, [.int (nI (shZ (zL sd) 0)), .int (nI (shZ (zL sd) 1)), .int (shI (zL sd) 0), .int (shI (zL sd) 1), .int (shI (zL sd) 2), .ref qP, .ref qU, .ref qH, .ref qG, vT, .ref qV])), (qU, .inl (cy 0, (shZ (zL sd) 2), .inl (shP (zL sd)))), (qG, .inl (cy 8, (shZ (zL sd) 4), .inr (.inr (.inr (.inr (fun i => some (rG i))))))), (qV, .inl (cy 2, 4, .inr (.inl (fun _ => (0 : Int64)))))] ++ (CW cy u qo st2 ++ (rl (shZ (zL sd) 4) rG (fun i => guestE (shG (zL sd) i)) ++ Z2))) := by rw [eqP, eqU, eqH, eqG, eqV]; exact hD
  have hI : GI cy (zL sd) qP qH vT rP rH rL rN Z2 := by rw [eqP, eqH]; exact hI
  clear eqP eqU eqH eqG eqV eZ2
  refine lv_astore (lv' := [(6, .ref a), (5, .ref r), (4, .ref qb), (3, .ref qo), (1, .int (1 : Int32)), (0, .ref b), (2, .int (0 : Int32))]) hx hb dL_law_208 hl (by decide) rfl (fun ls hl => ?_)
  refine lv_aload hx hb dL_law_210 (lv_at hl 0 rfl) ?_
  refine lv_ifnonnull (tgt := 217) hx hb dL_law_212 (by decide) ?_
  refine lv_iload_n hx hb dL_law_217 rfl (lv_at hl 4 rfl) ?_
  refine lv_if_eq (tgt := 234) hx hb dL_law_218 (by decide) (fun hbr1 => absurd hbr1 ((by decide : ¬ ((1 : Int32) = 0)))) (fun _ => ?_)
  refine lv_aload_n hx hb dL_law_221 rfl (lv_at hl 3 rfl) ?_
  refine lv_aload hx hb dL_law_222 (lv_at hl 0 rfl) ?_
  have hO := n1 _ _ _ _ hR2
  refine wq_agrees C hO (fun U hU hW => ⟨env_at (EN_ok D cy) hE hD hS hA hW, qP, qU, qH, qG, vT, rP, rH, rG, rL, rN, GF_of hts inJ0 hK hW (ro_mid hP hD) (hI.mono (fun z hz => List.mem_append_right _ (List.mem_append_right _ hz))) (List.mem_append_left _ (List.mem_of_getElem? (i := 1) rfl)) (List.mem_append_left _ (List.mem_of_getElem? (i := 2) rfl)) (List.mem_append_left _ (List.mem_of_getElem? (i := 3) rfl)) (fun k hk => List.mem_append_right _ (List.mem_append_left _ (List.mem_of_getElem? (rl_at hk))))⟩) hP hD hS hl dL_law_224 (by omega) (by omega) (fun H locs hP hD hS => ?_)
  have hP : va_P D vwCl ([(r, .inr (9, [.int (z9 sd)])), (a, .inr (10, [.int (nI (shZ (zL sd) 0)), .int (nI (shZ (zL sd) 1)), .int (shI (zL sd) 0), .int (shI (zL sd) 1), .int (shI (zL sd) 2), .ref qP, .ref qU, .ref qH, .ref qG, vT, .ref qV])), (qU, .inl (cy 0, (shZ (zL sd) 2), .inl (shP (zL sd)))), (qG, .inl (cy 8, (shZ (zL sd) 4), .inr (.inr (.inr (.inr (fun i => some (rG i))))))), (qV, .inl (cy 2, 4, .inr (.inl (fun _ => (0 : Int64)))))] ++ (CW cy u qo st2 ++ (rl (shZ (zL sd) 4) rG (fun i => guestE (shG (zL sd) i)) ++ Z2))) H := hP
  have hD : va_D (fun q => s.heap.size ≤ q) ([(r, .inr (9, [.int (z9 sd)])), (a, .inr (10, [.int (nI (shZ (zL sd) 0)), .int (nI (shZ (zL sd) 1)), .int (shI (zL sd) 0), .int (shI (zL sd) 1), .int (shI (zL sd) 2), .ref qP, .ref qU, .ref qH, .ref qG, vT, .ref qV])), (qU, .inl (cy 0, (shZ (zL sd) 2), .inl (shP (zL sd)))), (qG, .inl (cy 8, (shZ (zL sd) 4), .inr (.inr (.inr (.inr (fun i => some (rG i))))))), (qV, .inl (cy 2, 4, .inr (.inl (fun _ => (0 : Int64)))))] ++ (CW cy u qo st2 ++ (rl (shZ (zL sd) 4) rG (fun i => guestE (shG (zL sd) i)) ++ Z2))) := hD
  refine lv_if_eq (tgt := 234) hx hb dL_law_227 (by decide) (fun hbr2 => absurd hbr2 ((by decide : ¬ ((1 : Int32) = 0)))) (fun _ => ?_)
  refine lv_iconst (v := 1) hx hb dL_law_230 (by decide) ?_
  refine lv_goto (tgt := 235) hx hb dL_law_231 (by decide) ?_
  refine lv_istore_n (lv' := [(1, .int (1 : Int32)), (6, .ref a), (5, .ref r), (4, .ref qb), (3, .ref qo), (0, .ref b), (2, .int (0 : Int32))]) hx hb dL_law_235 rfl hl (by decide) rfl (fun ls hl => ?_)
  refine lv_bipush (v := 9) hx hb dL_law_236 (by decide) ?_
  refine kn_newr (N' := 9) 9 hx hb hown kl105 hL.2.2.2.2.1 hK rfl hP hD hS hA (by decide) (by decide) (by decide) (by show (((1100 + 4000) + 24) + 1) ≤ 600086; omega) (by show (((91000 + 300000) + 544) + 9) ≤ 7301442; omega) dL_law_238 (fun qB H hP hD hS => ?_)
  have hP := hP.perm pm_bg4
  have hD := hD.perm pm_bg4
  have hP : va_P D vwCl ([(r, .inr (9, [.int (z9 sd)])), (a, .inr (10, [.int (nI (shZ (zL sd) 0)), .int (nI (shZ (zL sd) 1)), .int (shI (zL sd) 0), .int (shI (zL sd) 1), .int (shI (zL sd) 2), .ref qP, .ref qU, .ref qH, .ref qG, vT, .ref qV])), (qU, .inl (cy 0, (shZ (zL sd) 2), .inl (shP (zL sd)))), (qG, .inl (cy 8, (shZ (zL sd) 4), .inr (.inr (.inr (.inr (fun i => some (rG i))))))), (qV, .inl (cy 2, 4, .inr (.inl (fun _ => (0 : Int64))))), (qB, .inl (cy 9, 9, .inr (.inr (.inr (.inr (fun _ => none))))))] ++ (CW cy u qo st2 ++ (rl (shZ (zL sd) 4) rG (fun i => guestE (shG (zL sd) i)) ++ Z2))) H := hP
  have hD : va_D (fun q => s.heap.size ≤ q) ([(r, .inr (9, [.int (z9 sd)])), (a, .inr (10, [.int (nI (shZ (zL sd) 0)), .int (nI (shZ (zL sd) 1)), .int (shI (zL sd) 0), .int (shI (zL sd) 1), .int (shI (zL sd) 2), .ref qP, .ref qU, .ref qH, .ref qG, vT, .ref qV])), (qU, .inl (cy 0, (shZ (zL sd) 2), .inl (shP (zL sd)))), (qG, .inl (cy 8, (shZ (zL sd) 4), .inr (.inr (.inr (.inr (fun i => some (rG i))))))), (qV, .inl (cy 2, 4, .inr (.inl (fun _ => (0 : Int64))))), (qB, .inl (cy 9, 9, .inr (.inr (.inr (.inr (fun _ => none))))))] ++ (CW cy u qo st2 ++ (rl (shZ (zL sd) 4) rG (fun i => guestE (shG (zL sd) i)) ++ Z2))) := hD
  refine lv_astore (lv' := [(7, .ref qB), (1, .int (1 : Int32)), (6, .ref a), (5, .ref r), (4, .ref qb), (3, .ref qo), (0, .ref b), (2, .int (0 : Int32))]) hx hb dL_law_241 hl (by decide) rfl (fun ls hl => ?_)
  refine lv_iconst (v := 0) hx hb dL_law_243 (by decide) ?_
  refine lv_istore (lv' := [(8, .int (0 : Int32)), (7, .ref qB), (1, .int (1 : Int32)), (6, .ref a), (5, .ref r), (4, .ref qb), (3, .ref qo), (0, .ref b), (2, .int (0 : Int32))]) hx hb dL_law_244 hl (by decide) rfl (fun ls hl => ?_)
  refine lv_iconst (v := 0) hx hb dL_law_246 (by decide) ?_
  refine lv_istore (lv' := [(9, .int (0 : Int32)), (8, .int (0 : Int32)), (7, .ref qB), (1, .int (1 : Int32)), (6, .ref a), (5, .ref r), (4, .ref qb), (3, .ref qo), (0, .ref b), (2, .int (0 : Int32))]) hx hb dL_law_247 hl (by decide) rfl (fun ls hl => ?_)
  refine W.widen (k := 5200) (n := 400000) (Nat.le_of_ble_eq_true rfl) (Nat.le_of_ble_eq_true rfl) ?_
  exact K a qP qU qH qG qV qB vT rP rH rG rL rN Z2 st2 H _ ls hR2 hI hP hD hS (lv_sub hl [0, 1, 2, 4, 5, 6, 7, 3, 8, 9] rfl)
