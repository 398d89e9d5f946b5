/-! texts in a tail of the world; pools in the middle -/
theorem rl_getM {X Y : va_W} {n k : Nat} {r : Nat → Nat} {e : Nat → va_E} (h : k < n) : (X ++ (rl n r e ++ Y))[X.length + k]? = some (r k, e k) := by
  rw [List.getElem?_append_right (by omega), show X.length + k - X.length = k by omega, List.getElem?_append_left (by rw [rl_len]; exact h), rl_at h]
theorem rl_setM {X Y : va_W} {n k : Nat} {r : Nat → Nat} {e : Nat → va_E} {x : va_E} (h : k < n) : (X ++ (rl n r e ++ Y)).set (X.length + k) (r k, x) = X ++ (rl n r (fun i => if i = k then x else e i) ++ Y) := by
  have h1 := rl_set (X := []) (r := r) (e := e) (x := x) h
  simp only [List.nil_append, List.length_nil, Nat.zero_add] at h1
  rw [List.set_append_right _ _ (by omega), show X.length + k - X.length = k by omega, List.set_append_left _ _ (by rw [rl_len]; exact h), h1]
/-- a text among the cells Z -/
def strM (cy : Nat → ClassId) (tx : List Int32) (r : Nat) (Z : va_W) : Prop := ∃ (v : Nat) (f : Nat → Int32), (r, strE v) ∈ Z ∧ (v, byE cy tx.length f) ∈ Z ∧ ∀ j, j < tx.length → f j = tx.getD j 0
theorem strM.mono {cy : Nat → ClassId} {tx : List Int32} {r : Nat} {Z Z2 : va_W} (h : strM cy tx r Z) (hm : ∀ z ∈ Z, z ∈ Z2) : strM cy tx r Z2 := by
  obtain ⟨v, f, h1, h2, h3⟩ := h
  exact ⟨v, f, hm _ h1, hm _ h2, h3⟩
theorem kT_mem {Ts : List Cond} {args : Array Value} {A : Nat → Prop} {D : va_G} {cy : Nat → ClassId} {s : State} {H : Heap} {X Z wc : va_W} {tx : List Int32} {r : Nat} (hts : ∀ w ∈ Ts, w.before args s = true) (hin : ∀ w ∈ u_ws RJ0 TJ0 4, w ∈ Ts) (hK : va_K D vwCl (kTys cy) s) (hm : strM cy tx r Z) (hP : va_P D vwCl (X ++ Z) H) (hD : va_D A (X ++ Z)) (is : List Nat) (hC : is.map (fun i => (X ++ Z)[i]?) = wc.map some) (hlt : ∀ i ∈ is, i < X.length) : kStrAt tx r (va_A wc H.size) s H := by
  obtain ⟨v, f, h1, h2, hf⟩ := hm
  obtain ⟨k1, hk1⟩ := List.getElem?_of_mem h1
  obtain ⟨k2, hk2⟩ := List.getElem?_of_mem h2
  have g : ∀ (k : Nat) (x : Nat × va_E), Z[k]? = some x → (X ++ Z)[X.length + k]? = some x := fun k x h => by rw [List.getElem?_append_right (by omega), show X.length + k - X.length = k by omega, h]
  exact kT_new hts hin hK hP hD (X.length + k1) (X.length + k2) (g _ _ hk1) (g _ _ hk2) is hC (fun h => absurd (hlt _ h) (by omega)) (fun h => absurd (hlt _ h) (by omega)) hf
/-- a constant text, or one among the cells Z -/
def strN (cy : Nat → ClassId) (A : Nat → Prop) (s : State) (tx : List Int32) (r : Nat) (Z : va_W) : Prop := kStrAt tx r A s s.heap ∨ strM cy tx r Z
theorem kT_N {Ts : List Cond} {args : Array Value} {A : Nat → Prop} {D : va_G} {cy : Nat → ClassId} {s : State} {H : Heap} {locs : List Loc} {X Z wc : va_W} {tx : List Int32} {r : Nat} (hts : ∀ w ∈ Ts, w.before args s = true) (hin : ∀ w ∈ u_ws RJ0 TJ0 4, w ∈ Ts) (hK : va_K D vwCl (kTys cy) s) (hm : strN cy A s tx r Z) (hP : va_P D vwCl (X ++ Z) H) (hD : va_D A (X ++ Z)) (hS : va_S A s.heap H locs) (hA : ∀ q, s.heap.size ≤ q → A q) (is : List Nat) (hC : is.map (fun i => (X ++ Z)[i]?) = wc.map some) (hlt : ∀ i ∈ is, i < X.length) : kStrAt tx r (va_A wc H.size) s H :=
  hm.elim (fun h => kT_old h hD hS hA is hC) (fun h => kT_mem hts hin hK h hP hD is hC hlt)
/-- cells in the middle are replaced by the same -/
theorem va_P.rl {D : va_G} {X Y : va_W} {n : Nat} {r : Nat → Nat} {e e2 : Nat → va_E} {H : Heap} (h : va_P D vwCl (X ++ (rl n r e ++ Y)) H) (he : ∀ k, k < n → va_at D vwCl (r k, e k) H → va_at D vwCl (r k, e2 k) H) : va_P D vwCl (X ++ (rl n r e2 ++ Y)) H := by
  intro k q hk
  by_cases h1 : k < X.length
  · rw [List.getElem?_append_left h1] at hk
    exact h k q (by rw [List.getElem?_append_left h1]; exact hk)
  · rw [List.getElem?_append_right (by omega)] at hk
    by_cases h2 : k - X.length < n
    · rw [List.getElem?_append_left (by rw [rl_len]; exact h2), rl_at h2] at hk
      obtain rfl := Option.some.inj hk
      refine he _ h2 (h k _ ?_)
      rw [List.getElem?_append_right (by omega), List.getElem?_append_left (by rw [rl_len]; exact h2), rl_at h2]
    · rw [List.getElem?_append_right (by rw [rl_len]; omega), rl_len] at hk
      refine h k q ?_
      rw [List.getElem?_append_right (by omega), List.getElem?_append_right (by rw [rl_len]; omega), rl_len]; exact hk
theorem va_D.adr {A : Nat → Prop} {ws ws2 : va_W} (h : va_D A ws) (he : ws2.map Prod.fst = ws.map Prod.fst) : va_D A ws2 := by
  have g : ∀ (k : Nat) (q : Nat × va_E), ws2[k]? = some q → ∃ q2 : Nat × va_E, ws[k]? = some q2 ∧ q2.1 = q.1 := by
    intro k q hk
    have h1 : (ws2.map Prod.fst)[k]? = some q.1 := by rw [List.getElem?_map, hk]; rfl
    rw [he, List.getElem?_map] at h1
    cases h2 : ws[k]? with
    | none => rw [h2] at h1; cases h1
    | some x => rw [h2] at h1; exact ⟨x, rfl, Option.some.inj h1⟩
  refine ⟨fun i j p q hi hj e => ?_, fun k q hk => ?_⟩
  · obtain ⟨p2, hp, ep⟩ := g i p hi
    obtain ⟨q2, hq, eq⟩ := g j q hj
    exact h.1 i j p2 q2 hp hq (by rw [ep, eq, e])
  · obtain ⟨q2, hq, eq⟩ := g k q hk
    exact eq ▸ h.2 k q2 hq
theorem rl_adr (n : Nat) (r : Nat → Nat) (e : Nat → va_E) : (rl n r e).map Prod.fst = (List.range n).map r := by
  unfold rl; rw [List.map_map]; rfl
theorem va_D.rl {A : Nat → Prop} {X Y : va_W} {n : Nat} {r : Nat → Nat} {e e2 : Nat → va_E} (h : va_D A (X ++ (rl n r e ++ Y))) : va_D A (X ++ (rl n r e2 ++ Y)) :=
  h.adr (by rw [List.map_append, List.map_append, List.map_append, List.map_append, rl_adr, rl_adr])
theorem kH_arrC {C : String} {cA : ClassId} {s : State} {args : Array Value} (h : va_RA s cA (.object C)) : (Cond.arrayClass (.object C)).before args s = true := by
  obtain ⟨kA, comp, h1, h2, h3, h4⟩ := h
  simp [Cond.before, Cond.holds, Cond.value, h4, h1, h2]
/-- a row of texts that grows: below y it has them -/
def rowG (cy : Nat → ClassId) (tx : List Int32) (Z : va_W) (y : Nat) (g : Nat → Option Nat) : Prop := ∀ j, j < y → ∃ r : Nat, g j = some r ∧ strM cy tx r Z
theorem rowG.up {cy : Nat → ClassId} {tx : List Int32} {Z Z2 : va_W} {y r : Nat} {g : Nat → Option Nat} (h : rowG cy tx Z y g) (hm : ∀ z ∈ Z, z ∈ Z2) (hr : strM cy tx r Z2) : rowG cy tx Z2 (y + 1) (va_up g y (some r)) := by
  intro j hj
  unfold va_up
  by_cases e : j = y
  · rw [if_pos e]; exact ⟨r, rfl, hr⟩
  · rw [if_neg e]
    obtain ⟨q, h1, h2⟩ := h j (by omega)
    exact ⟨q, h1, h2.mono hm⟩
theorem rowG.mono {cy : Nat → ClassId} {tx : List Int32} {Z Z2 : va_W} {y : Nat} {g : Nat → Option Nat} (h : rowG cy tx Z y g) (hm : ∀ z ∈ Z, z ∈ Z2) : rowG cy tx Z2 y g := fun j hj => by
  obtain ⟨q, h1, h2⟩ := h j hj
  exact ⟨q, h1, h2.mono hm⟩
abbrev rowE (cy : Nat → ClassId) (h : Nat) (g : Nat → Option Nat) : va_E := .inl (cy 6, h, .inr (.inr (.inr (.inr g))))
theorem repl_s (c : Int32) (x : Nat) : List.replicate x c ++ [c] = List.replicate (x + 1) c := by
  rw [List.replicate_succ']
theorem tl_get {X Y : va_W} {n k : Nat} {r : Nat → Nat} {e : Nat → va_E} {x : Nat × va_E} (h : Y[k]? = some x) : (X ++ (rl n r e ++ Y))[X.length + (n + k)]? = some x := by
  rw [List.getElem?_append_right (by omega), show X.length + (n + k) - X.length = n + k by omega, List.getElem?_append_right (by rw [rl_len]; omega), rl_len, show n + k - n = k by omega, h]
theorem rowE_if {cy : Nat → ClassId} {hh p : Nat} {g : Nat → Nat → Option Nat} {x : Nat → Option Nat} : (fun i => if i = p then rowE cy hh x else rowE cy hh (g i)) = fun i => rowE cy hh ((fun q => if q = p then x else g q) i) := by
  funext i
  by_cases h : i = p
  · show (if i = p then _ else _) = rowE cy hh (if i = p then _ else _)
    rw [if_pos h, if_pos h]
  · show (if i = p then _ else _) = rowE cy hh (if i = p then _ else _)
    rw [if_neg h, if_neg h]
theorem asc_repl {c : Int32} (h : asc c) (x : Nat) : ascS (List.replicate x c) := fun y hy => by rw [List.eq_of_mem_replicate hy]; exact h
/-- what an open plane, or the back, holds -/
def lyC (n p : Nat) : Int32 := if p + 1 < n then 46 else 97
theorem lyC_asc (n p : Nat) : asc (lyC n p) := by unfold lyC; split <;> exact ⟨by decide, by decide⟩
theorem strN.tail {cy : Nat → ClassId} {A : Nat → Prop} {s : State} {tx : List Int32} {r : Nat} {Z P : va_W} (h : strN cy A s tx r Z) : strN cy A s tx r (P ++ Z) := h.imp id (fun h => h.mono (fun z hz => List.mem_append_right _ hz))
theorem va_P.back {D : va_G} {X G P Y : va_W} {H : Heap} (h : va_P D vwCl ((X ++ G) ++ (P ++ Y)) H) : va_P D vwCl (X ++ (P ++ (Y ++ G))) H := by
  have h := va_P.swap h
  rw [List.append_assoc, List.append_assoc] at h
  exact h
theorem va_D.back {A : Nat → Prop} {X G P Y : va_W} (h : va_D A ((X ++ G) ++ (P ++ Y))) : va_D A (X ++ (P ++ (Y ++ G))) := by
  have h := va_D.swap h
  rw [List.append_assoc, List.append_assoc] at h
  exact h
/-- the rows' references, once they are all there -/
theorem rows_refs {D : va_G} {cy : Nat → ClassId} {A : Nat → Prop} {X Y : va_W} {n hh : Nat} {r : Nat → Nat} {g : Nat → Nat → Option Nat} {rL : Nat → Nat → Nat} {H : Heap} (hP : va_P D vwCl (X ++ (rl n r (fun q => rowE cy hh (g q)) ++ Y)) H) (hD : va_D A (X ++ (rl n r (fun q => rowE cy hh (g q)) ++ Y))) (hg : ∀ q, q < n → ∀ y, y < hh → g q y = some (rL q y)) : va_P D vwCl (X ++ (rl n r (fun q => refsE (cy 6) hh (rL q)) ++ Y)) H ∧ va_D A (X ++ (rl n r (fun q => refsE (cy 6) hh (rL q)) ++ Y)) :=
  ⟨hP.rl (fun k hk h => by have h : H[r k]? = some (vp_cell (cy 6) (hh, .inr (.inr (.inr (.inr (g k)))))) := h; rw [refs_cell (g := fun i => some (rL k i)) (fun i hi => hg k hk i hi)] at h; exact h), hD.rl⟩
/-- the cells behind Show.lay -/
abbrev layW (cy : Nat → ClassId) (a n w hh : Nat) (s2 s3 s4 : Int32) (v7 v8 v9 v10 : Value) (qP qU : Nat) (rP : Nat → Nat) (rL : Nat → Nat → Nat) (Y : va_W) : va_W := [(a, .inr (10, [.int (nI w), .int (nI hh), .int s2, .int s3, .int s4, .ref qP, .ref qU, v7, v8, v9, v10])), (qP, refsE (cy 7) n rP), (qU, .inl (cy 0, n, .inl (fun _ => 0)))] ++ (rl n rP (fun q => refsE (cy 6) hh (rL q)) ++ Y)
theorem wjn_2 {ws : va_W} {i j : Nat} {x y : Nat × va_E} : wjn ws [i, j] [x, y] = (ws.set i x).set j y := List.append_nil _
theorem wjn_1 {ws : va_W} {i : Nat} {x : Nat × va_E} : wjn ws [i] [x] = ws.set i x := List.append_nil _
/-! Show.lay (lay.py) -/
theorem kd_X10_lay : yX10_lay.cls = RX10 ∧ yX10_lay.cls ≠ "java/lang/invoke/MethodHandle" ∧ yX10_lay.cls ≠ "java/lang/invoke/VarHandle" ∧ (parseMethodDescriptor yX10_lay.desc).map (fun d => d.parameters.length) = some 1 := by decide +kernel
set_option maxHeartbeats 4000000 in
set_option maxRecDepth 100000 in
theorem c_X10_lay {l : Launch} {D : va_G} {cy : Nat → ClassId} (a n w hh sz : Nat) (s2 s3 s4 : Int32) (v5 v6 v7 v8 v9 v10 : Value) (hn : n ≤ 4) (hw1 : 1 ≤ w) (hw6 : w ≤ 6) (hh4 : hh ≤ 4) : Met l yX10_lay wsX10_lay ({ frames := 8, cells := 610, slots := 60100, locals := 500 } : Room) (kP (EW D cy) D [.ref a, .int (nI n)] ([(a, .inr (10, [.int (nI w), .int (nI hh), .int s2, .int s3, .int s4, v5, v6, v7, v8, v9, v10]))]) sz) (kQR D (fun (u : Nat × Nat × (Nat → Nat) × (Nat → Nat → Nat) × va_W) (r : Nat) => r = a ∧ ∀ q, q < n → ∀ y, y < hh → strM cy (List.replicate w (lyC n q)) (u.2.2.2.1 q y) u.2.2.2.2) (fun u _ => layW cy a n w hh s2 s3 s4 v7 v8 v9 v10 u.1 u.2.1 u.2.2.1 u.2.2.2.1 u.2.2.2.2) (va_A ([(a, .inr (10, [.int (nI w), .int (nI hh), .int s2, .int s3, .int s4, v5, v6, v7, v8, v9, v10]))]) sz)) 610 60100 (va_A ([(a, .inr (10, [.int (nI w), .int (nI hh), .int s2, .int s3, .int s4, v5, v6, v7, v8, v9, v10]))]) sz) := by
  refine kMet (y := yX10_lay) (av := [.ref a, .int (nI n)]) (cc := cX10_lay) (maxL := 6) (ret := some (.object "PeepBoxLaw$Show")) (own := RX10) (Qc := fun A9 => (kQR D (fun (u : Nat × Nat × (Nat → Nat) × (Nat → Nat → Nat) × va_W) (r : Nat) => r = a ∧ ∀ q, q < n → ∀ y, y < hh → strM cy (List.replicate w (lyC n q)) (u.2.2.2.1 q y) u.2.2.2.2) (fun u _ => layW cy a n w hh s2 s3 s4 v7 v8 v9 v10 u.1 u.2.1 u.2.2.1 u.2.2.2.1 u.2.2.2.2) A9)) (by decide) rfl rfl (Nat.le_of_ble_eq_true rfl) ?_
  intro p e s m args below meth c A hx hb hr hts hown hml hlocks hname hE hP hD hA hsz ls hl
  have hEW := hE
  obtain ⟨hE, hW1, hW2⟩ := hE
  obtain ⟨hE, hL⟩ := hE
  have hEL : EL D cy A s s.heap := ⟨hE, hL⟩
  have hK := hE.1
  have hl : lv_has ls 6 [(0, .ref a), (1, .int (nI n))] := hl
  have hS : va_S A s.heap s.heap [] := va_S.rf
  have inJ0 : ∀ w ∈ wsJ00, w ∈ wsX10_lay := by decide +kernel
  have f13 := hts (.fieldLink RX10 13 "PeepBoxLaw$Show" "height" "I") (by decide +kernel)
  have inX10 : ∀ w ∈ wsX100, w ∈ wsX10_lay := by decide +kernel
  have f24 := hts (.fieldLink RX10 24 "PeepBoxLaw$Show" "planes" "[[Ljava/lang/String;") (by decide +kernel)
  have aI := hts (.arrayClass .int) (by decide +kernel)
  have f28 := hts (.fieldLink RX10 28 "PeepBoxLaw$Show" "pulls" "[I") (by decide +kernel)
  have f7 := hts (.fieldLink RX10 7 "PeepBoxLaw$Show" "width" "I") (by decide +kernel)
  have k66 := hts (.classLink RX10 66 RJ4) (by decide +kernel)
  have nJ4 := hts (.instantiable RJ4 4) (by decide +kernel)
  have iRJ4 := hts (.initialized RJ4) (by decide +kernel)
  have inJ4 : ∀ w ∈ wsJ40, w ∈ wsX10_lay := by decide +kernel
  have l68 := hts (.methodLink RX10 68 yJ4_init_da8c8) (by decide +kernel)
  have imJ4_init_da8c8 := hts (.instanceMethod yJ4_init_da8c8) (by decide +kernel)
  obtain ⟨QQ, hQQ⟩ : ∃ Q9, Q9 = MQ below (kQR D (fun (u : Nat × Nat × (Nat → Nat) × (Nat → Nat → Nat) × va_W) (r : Nat) => r = a ∧ ∀ q, q < n → ∀ y, y < hh → strM cy (List.replicate w (lyC n q)) (u.2.2.2.1 q y) u.2.2.2.2) (fun u _ => layW cy a n w hh s2 s3 s4 v7 v8 v9 v10 u.1 u.2.1 u.2.2.1 u.2.2.2.1 u.2.2.2.2) A) args s 610 60100 A := ⟨_, rfl⟩
  rw [← hQQ]
  obtain ⟨H, hH⟩ : ∃ H9, H9 = s.heap := ⟨_, rfl⟩
  have hP : va_P D vwCl ([(a, .inr (10, [.int (nI w), .int (nI hh), .int s2, .int s3, .int s4, v5, v6, v7, v8, v9, v10]))]) H := by rw [hH]; exact hP
  have hS : va_S A s.heap H [] := by rw [hH]; exact hS
  rw [← hH]
  refine lv_aload_n hx hb dX10_lay_0 rfl (lv_at hl 0 rfl) ?_
  refine lv_iload_n hx hb dX10_lay_1 rfl (lv_at hl 1 rfl) ?_
  refine lv_aload_n hx hb dX10_lay_2 rfl (lv_at hl 0 rfl) ?_
  refine va_get (D := D) (ci := 10) (v := .int (nI hh)) (C := RX10) (T := TX10) (N := 11) hx hb hts inX10 hown hK hP 0 rfl rfl 1 (by decide) f13 (fun _ h9 => h9) rfl dX10_lay_3 ?_
  have hnh : n * hh ≤ 16 := Nat.mul_le_mul hn hh4
  obtain ⟨kA, comp, -, -, -, hcy⟩ := (hK.2 6 _ rfl).2
  refine kn_mn (ty := .object "java/lang/String") (N' := n) (K' := hh) (cB := cy 6) 7 6 (z := (hh, .inr (.inr (.inr (.inr (fun _ => none)))))) hx hb hown (va_Nw.use rfl hW2) hL.2.2.2.2.2.2.1 (kH_arrC (hK.2 6 _ rfl).2) hK rfl hcy hP hD hS hA (by omega) (by omega) (by show hh * 4 ≤ 536870912; omega) (by decide) (by decide) (by show 0 + (1 + n) ≤ 610; omega) (by show 0 + (n + n * hh) ≤ 60100; omega) (fun c => by unfold Jvm.Free.Multi.innerC; rw [arrV_new]; rfl) dX10_lay_6 (fun qP rP H hP hD hS => ?_)
  have hP : va_P D vwCl ([(a, .inr (10, [.int (nI w), .int (nI hh), .int s2, .int s3, .int s4, v5, v6, v7, v8, v9, v10])), (qP, .inl (cy 7, n, .inr (.inr (.inr (.inr (fun i => some (rP i)))))))] ++ (rl n rP (fun q => rowE cy hh ((fun _ _ => none) q)) ++ ([] : va_W))) H := by rw [List.append_nil]; exact hP
  have hD : va_D A ([(a, .inr (10, [.int (nI w), .int (nI hh), .int s2, .int s3, .int s4, v5, v6, v7, v8, v9, v10])), (qP, .inl (cy 7, n, .inr (.inr (.inr (.inr (fun i => some (rP i)))))))] ++ (rl n rP (fun q => rowE cy hh ((fun _ _ => none) q)) ++ ([] : va_W))) := by rw [List.append_nil]; exact hD
  refine W.widen (k := 5) (n := 20) (by omega) (by omega) ?_
  refine va_put (D := D) (ci := 10) (v := .ref qP) (ty := (.array (.array (.object "java/lang/String")))) (C := RX10) (T := TX10) (N := 11) hx hb hts inX10 tyX10 tyX10_ok nmX10 hown hK hP hD hS 0 rfl rfl 5 (by decide) f24 (fun _ h9 => h9) (by decide +kernel) rfl rfl rfl (Nat.le_of_ble_eq_true rfl) dX10_lay_10 (fun H locs hP hD hS => ?_)
  have hP : va_P D vwCl ([(a, .inr (10, [.int (nI w), .int (nI hh), .int s2, .int s3, .int s4, .ref qP, v6, v7, v8, v9, v10])), (qP, .inl (cy 7, n, .inr (.inr (.inr (.inr (fun i => some (rP i)))))))] ++ (rl n rP (fun q => rowE cy hh ((fun _ _ => none) q)) ++ ([] : va_W))) H := hP
  have hD : va_D A ([(a, .inr (10, [.int (nI w), .int (nI hh), .int s2, .int s3, .int s4, .ref qP, v6, v7, v8, v9, v10])), (qP, .inl (cy 7, n, .inr (.inr (.inr (.inr (fun i => some (rP i)))))))] ++ (rl n rP (fun q => rowE cy hh ((fun _ _ => none) q)) ++ ([] : va_W))) := hD
  refine lv_aload_n hx hb dX10_lay_13 rfl (lv_at hl 0 rfl) ?_
  refine lv_iload_n hx hb dX10_lay_14 rfl (lv_at hl 1 rfl) ?_
  refine kn_newi (N' := n) hx hb aI hK hP hD hS hA (nI_pos (by omega)) (nI_clamp (by omega)) (by omega) (by show 5 + 1 ≤ 610; omega) (by show 20 + n ≤ 60100; omega) dX10_lay_15 (fun qU H hP hD hS => ?_)
  have hP := va_P.swap hP
  have hD := va_D.swap hD
  have hP : va_P D vwCl ([(a, .inr (10, [.int (nI w), .int (nI hh), .int s2, .int s3, .int s4, .ref qP, v6, v7, v8, v9, v10])), (qP, .inl (cy 7, n, .inr (.inr (.inr (.inr (fun i => some (rP i))))))), (qU, .inl (cy 0, n, .inl (fun _ => (0 : Int32))))] ++ (rl n rP (fun q => rowE cy hh ((fun _ _ => none) q)) ++ ([] : va_W))) H := hP
  have hD : va_D A ([(a, .inr (10, [.int (nI w), .int (nI hh), .int s2, .int s3, .int s4, .ref qP, v6, v7, v8, v9, v10])), (qP, .inl (cy 7, n, .inr (.inr (.inr (.inr (fun i => some (rP i))))))), (qU, .inl (cy 0, n, .inl (fun _ => (0 : Int32))))] ++ (rl n rP (fun q => rowE cy hh ((fun _ _ => none) q)) ++ ([] : va_W))) := hD
  refine W.widen (k := 6) (n := 30) (by omega) (by omega) ?_
  refine va_put (D := D) (ci := 10) (v := .ref qU) (ty := (.array .int)) (C := RX10) (T := TX10) (N := 11) hx hb hts inX10 tyX10 tyX10_ok nmX10 hown hK hP hD hS 0 rfl rfl 6 (by decide) f28 (fun _ h9 => h9) (by decide +kernel) rfl rfl rfl (Nat.le_of_ble_eq_true rfl) dX10_lay_17 (fun H locs hP hD hS => ?_)
  have hP : va_P D vwCl ([(a, .inr (10, [.int (nI w), .int (nI hh), .int s2, .int s3, .int s4, .ref qP, .ref qU, v7, v8, v9, v10])), (qP, .inl (cy 7, n, .inr (.inr (.inr (.inr (fun i => some (rP i))))))), (qU, .inl (cy 0, n, .inl (fun _ => (0 : Int32))))] ++ (rl n rP (fun q => rowE cy hh ((fun _ _ => none) q)) ++ ([] : va_W))) H := hP
  have hD : va_D A ([(a, .inr (10, [.int (nI w), .int (nI hh), .int s2, .int s3, .int s4, .ref qP, .ref qU, v7, v8, v9, v10])), (qP, .inl (cy 7, n, .inr (.inr (.inr (.inr (fun i => some (rP i))))))), (qU, .inl (cy 0, n, .inl (fun _ => (0 : Int32))))] ++ (rl n rP (fun q => rowE cy hh ((fun _ _ => none) q)) ++ ([] : va_W))) := hD
  refine lv_iconst (v := 0) hx hb dX10_lay_20 (by decide) ?_
  refine lv_istore_n (lv' := [(2, .int (0 : Int32)), (0, .ref a), (1, .int (nI n))]) hx hb dX10_lay_21 rfl hl (by decide) rfl (fun ls hl => ?_)
  have J : ∀ (k p9 : Nat) (g : Nat → Nat → Option Nat) (Y : va_W) (H : Heap) (locs : List Loc) (ls : Array Slot), n - p9 < k → p9 ≤ n → (∀ q, q < p9 → rowG cy (List.replicate w (lyC n q)) Y hh (g q)) → va_P D vwCl ([(a, .inr (10, [.int (nI w), .int (nI hh), .int s2, .int s3, .int s4, .ref qP, .ref qU, v7, v8, v9, v10])), (qP, .inl (cy 7, n, .inr (.inr (.inr (.inr (fun i => some (rP i))))))), (qU, .inl (cy 0, n, .inl (fun _ => (0 : Int32))))] ++ (rl n rP (fun q => rowE cy hh (g q)) ++ Y)) H → va_D A ([(a, .inr (10, [.int (nI w), .int (nI hh), .int s2, .int s3, .int s4, .ref qP, .ref qU, v7, v8, v9, v10])), (qP, .inl (cy 7, n, .inr (.inr (.inr (.inr (fun i => some (rP i))))))), (qU, .inl (cy 0, n, .inl (fun _ => (0 : Int32))))] ++ (rl n rP (fun q => rowE cy hh (g q)) ++ Y)) → va_S A s.heap H locs → lv_has ls 6 [(2, .int (nI p9)), (0, .ref a), (1, .int (nI n))] → W p l e ({ frames := 8, cells := 610, slots := 60100, locals := 500 } : Room) s m args below meth c H locs (6 + 150 * p9) (30 + 15000 * p9) QQ (F0 m 22 ls []) := by
    intro k
    induction k with
    | zero => intro p9 g Y H locs ls h1; omega
    | succ k ih =>
      intro p9 g Y H locs ls h1 h2 hrows hP hD hS hl
      refine lv_iload_n hx hb dX10_lay_22 rfl (lv_at hl 0 rfl) ?_
      refine lv_iload_n hx hb dX10_lay_23 rfl (lv_at hl 2 rfl) ?_
      by_cases hp : p9 < n
      · skip
        refine lv_icmp_ge (tgt := 115) hx hb dX10_lay_24 (by decide) (fun h1 => absurd h1 (nI_ge hp (by omega))) (fun _ => ?_)
        refine lv_iconst (v := 0) hx hb dX10_lay_27 (by decide) ?_
        refine lv_istore_n (lv' := [(3, .int (0 : Int32)), (2, .int (nI p9)), (0, .ref a), (1, .int (nI n))]) hx hb dX10_lay_28 rfl hl (by decide) rfl (fun ls hl => ?_)
        have J1 : ∀ (k y : Nat) (g : Nat → Nat → Option Nat) (Y : va_W) (H : Heap) (locs : List Loc) (ls : Array Slot), hh - y < k → y ≤ hh → (∀ q, q < p9 → rowG cy (List.replicate w (lyC n q)) Y hh (g q)) → rowG cy (List.replicate w (lyC n p9)) Y y (g p9) → va_P D vwCl ([(a, .inr (10, [.int (nI w), .int (nI hh), .int s2, .int s3, .int s4, .ref qP, .ref qU, v7, v8, v9, v10])), (qP, .inl (cy 7, n, .inr (.inr (.inr (.inr (fun i => some (rP i))))))), (qU, .inl (cy 0, n, .inl (fun _ => (0 : Int32))))] ++ (rl n rP (fun q => rowE cy hh (g q)) ++ Y)) H → va_D A ([(a, .inr (10, [.int (nI w), .int (nI hh), .int s2, .int s3, .int s4, .ref qP, .ref qU, v7, v8, v9, v10])), (qP, .inl (cy 7, n, .inr (.inr (.inr (.inr (fun i => some (rP i))))))), (qU, .inl (cy 0, n, .inl (fun _ => (0 : Int32))))] ++ (rl n rP (fun q => rowE cy hh (g q)) ++ Y)) → va_S A s.heap H locs → lv_has ls 6 [(3, .int (nI y)), (2, .int (nI p9)), (0, .ref a), (1, .int (nI n))] → W p l e ({ frames := 8, cells := 610, slots := 60100, locals := 500 } : Room) s m args below meth c H locs (6 + 150 * p9 + 37 * y) (30 + 15000 * p9 + 3750 * y) QQ (F0 m 29 ls []) := by
          intro k
          induction k with
          | zero => intro y g Y H locs ls h1; omega
          | succ k ih2 =>
            intro y g Y H locs ls h3 h4 hrows hrow hP hD hS hl
            refine lv_iload_n hx hb dX10_lay_29 rfl (lv_at hl 0 rfl) ?_
            refine lv_aload_n hx hb dX10_lay_30 rfl (lv_at hl 2 rfl) ?_
            refine va_get (D := D) (ci := 10) (v := .int (nI hh)) (C := RX10) (T := TX10) (N := 11) hx hb hts inX10 hown hK hP 0 rfl rfl 1 (by decide) f13 (fun _ h9 => h9) rfl dX10_lay_31 ?_
            by_cases hy : y < hh
            · skip
              refine lv_icmp_ge (tgt := 109) hx hb dX10_lay_34 (by decide) (fun h2 => absurd h2 (nI_ge hy (by omega))) (fun _ => ?_)
              obtain ⟨a3, hRa3, hTa3⟩ := hL.2.2.2.2.2.2.2 ("PeepBoxLaw$Show", 64, "", []) (by decide +kernel)
              refine va_ldcS hx hb hown hRa3 dX10_lay_37 ?_
              refine lv_astore (lv' := [(4, .ref a3), (3, .int (nI y)), (2, .int (nI p9)), (0, .ref a), (1, .int (nI n))]) hx hb dX10_lay_39 hl (by decide) rfl (fun ls hl => ?_)
              refine lv_iconst (v := 0) hx hb dX10_lay_41 (by decide) ?_
              refine lv_istore (lv' := [(5, .int (0 : Int32)), (4, .ref a3), (3, .int (nI y)), (2, .int (nI p9)), (0, .ref a), (1, .int (nI n))]) hx hb dX10_lay_42 hl (by decide) rfl (fun ls hl => ?_)
              have J2 : ∀ (k x ln : Nat) (Y : va_W) (H : Heap) (locs : List Loc) (ls : Array Slot), w - x < k → x ≤ w → (∀ q, q < p9 → rowG cy (List.replicate w (lyC n q)) Y hh (g q)) → rowG cy (List.replicate w (lyC n p9)) Y y (g p9) → strN cy A s (List.replicate x (lyC n p9)) ln Y → (0 < x → strM cy (List.replicate x (lyC n p9)) ln Y) → va_P D vwCl ([(a, .inr (10, [.int (nI w), .int (nI hh), .int s2, .int s3, .int s4, .ref qP, .ref qU, v7, v8, v9, v10])), (qP, .inl (cy 7, n, .inr (.inr (.inr (.inr (fun i => some (rP i))))))), (qU, .inl (cy 0, n, .inl (fun _ => (0 : Int32))))] ++ (rl n rP (fun q => rowE cy hh (g q)) ++ Y)) H → va_D A ([(a, .inr (10, [.int (nI w), .int (nI hh), .int s2, .int s3, .int s4, .ref qP, .ref qU, v7, v8, v9, v10])), (qP, .inl (cy 7, n, .inr (.inr (.inr (.inr (fun i => some (rP i))))))), (qU, .inl (cy 0, n, .inl (fun _ => (0 : Int32))))] ++ (rl n rP (fun q => rowE cy hh (g q)) ++ Y)) → va_S A s.heap H locs → lv_has ls 6 [(5, .int (nI x)), (4, .ref ln), (3, .int (nI y)), (2, .int (nI p9)), (0, .ref a), (1, .int (nI n))] → W p l e ({ frames := 8, cells := 610, slots := 60100, locals := 500 } : Room) s m args below meth c H locs (6 + 150 * p9 + 37 * y + 6 * x) (30 + 15000 * p9 + 3750 * y + 624 * x) QQ (F0 m 44 ls []) := by
                intro k
                induction k with
                | zero => intro x ln Y H locs ls h1; omega
                | succ k ih3 =>
                  intro x ln Y H locs ls h5 h6 hrows hrow hln hlm hP hD hS hl
                  refine lv_iload hx hb dX10_lay_44 (lv_at hl 0 rfl) ?_
                  refine lv_aload_n hx hb dX10_lay_46 rfl (lv_at hl 4 rfl) ?_
                  refine va_get (D := D) (ci := 10) (v := .int (nI w)) (C := RX10) (T := TX10) (N := 11) hx hb hts inX10 hown hK hP 0 rfl rfl 0 (by decide) f7 (fun _ h9 => h9) rfl dX10_lay_47 ?_
                  by_cases hxw : x < w
                  · skip
                    refine lv_icmp_ge (tgt := 93) hx hb dX10_lay_50 (by decide) (fun h4 => absurd h4 (nI_ge hxw (by omega))) (fun _ => ?_)
                    refine va_new (ci := 12) (fs := [.null, .int 0, .int 0, .int 0]) (C := RJ4) (T := TJ4) (N := 4) hx hb hts inJ4 tyJ4 tyJ4_ok hown k66 nJ4 iRJ4 hK hP hD hS hA rfl (fun j hj => by rcases (show j = 0 ∨ j = 1 ∨ j = 2 ∨ j = 3 by omega) with rfl | rfl | rfl | rfl <;> rfl) (by show ((6 + 150 * p9 + 37 * y + 6 * x) + 1) ≤ 610; omega) (by show ((30 + 15000 * p9 + 3750 * y + 624 * x) + 4) ≤ 60100; omega) dX10_lay_53 (fun b H hP hD hS => ?_)
                    have hP := va_P.swap hP
                    have hD := va_D.swap hD
                    have hP : va_P D vwCl ([(a, .inr (10, [.int (nI w), .int (nI hh), .int s2, .int s3, .int s4, .ref qP, .ref qU, v7, v8, v9, v10])), (qP, .inl (cy 7, n, .inr (.inr (.inr (.inr (fun i => some (rP i))))))), (qU, .inl (cy 0, n, .inl (fun _ => (0 : Int32)))), (b, .inr (12, [.null, .int (0 : Int32), .int (0 : Int32), .int (0 : Int32)]))] ++ (rl n rP (fun q => rowE cy hh (g q)) ++ Y)) H := hP
                    have hD : va_D A ([(a, .inr (10, [.int (nI w), .int (nI hh), .int s2, .int s3, .int s4, .ref qP, .ref qU, v7, v8, v9, v10])), (qP, .inl (cy 7, n, .inr (.inr (.inr (.inr (fun i => some (rP i))))))), (qU, .inl (cy 0, n, .inl (fun _ => (0 : Int32)))), (b, .inr (12, [.null, .int (0 : Int32), .int (0 : Int32), .int (0 : Int32)]))] ++ (rl n rP (fun q => rowE cy hh (g q)) ++ Y)) := hD
                    refine lv_dup hx hb dX10_lay_56 rfl ?_
                    refine kc_E (va_runI (As := []) (rest := [.ref b]) ⟨hx, hb, hml, hown, hts⟩ (c_J4_init_da8c8 b H.size) (cwI 0 hts gX10_lay_J4_init_da8c8 rfl rfl rfl iRJ4 l68 imJ4_init_da8c8 rfl kd_J4_init_da8c8 ⟨by dsimp only; omega, by dsimp only; omega⟩) ⟨kP_blind (EN_ok D cy) D _ _ _, kStart (EN_ok D cy) hE hP hD hS hA [3] rfl rfl _⟩ rfl rfl hl.1 rfl (lv_room (Nat.le_of_ble_eq_true rfl)) dX10_lay_57 ⟨by show ((6 + 150 * p9 + 37 * y + 6 * x) + 1) + 1 ≤ 610; omega, by show ((30 + 15000 * p9 + 3750 * y + 624 * x) + 4) + 16 ≤ 60100; omega⟩) hP hD hS hA [3] rfl (fun _ => Nat.le_of_ble_eq_true rfl) (fun v H locs _ hP hD hS => ?_)
                    have hP : va_P D vwCl (([(a, .inr (10, [.int (nI w), .int (nI hh), .int s2, .int s3, .int s4, .ref qP, .ref qU, v7, v8, v9, v10])), (qP, .inl (cy 7, n, .inr (.inr (.inr (.inr (fun i => some (rP i))))))), (qU, .inl (cy 0, n, .inl (fun _ => (0 : Int32)))), (b, .inr (12, [.ref v, .int (0 : Int32), .int (0 : Int32), .int (nI (([] : List Int32).length))]))] ++ (rl n rP (fun q => rowE cy hh (g q)) ++ Y)) ++ [(v, .inl (cy 1, 16, .inl (fun _ => (0 : Int32))))]) H := hP
                    have hD : va_D A (([(a, .inr (10, [.int (nI w), .int (nI hh), .int s2, .int s3, .int s4, .ref qP, .ref qU, v7, v8, v9, v10])), (qP, .inl (cy 7, n, .inr (.inr (.inr (.inr (fun i => some (rP i))))))), (qU, .inl (cy 0, n, .inl (fun _ => (0 : Int32)))), (b, .inr (12, [.ref v, .int (0 : Int32), .int (0 : Int32), .int (nI (([] : List Int32).length))]))] ++ (rl n rP (fun q => rowE cy hh (g q)) ++ Y)) ++ [(v, .inl (cy 1, 16, .inl (fun _ => (0 : Int32))))]) := hD
                    have hP := va_P.swap hP
                    have hD := va_D.swap hD
                    have hP : va_P D vwCl ([(a, .inr (10, [.int (nI w), .int (nI hh), .int s2, .int s3, .int s4, .ref qP, .ref qU, v7, v8, v9, v10])), (qP, .inl (cy 7, n, .inr (.inr (.inr (.inr (fun i => some (rP i))))))), (qU, .inl (cy 0, n, .inl (fun _ => (0 : Int32)))), (b, .inr (12, [.ref v, .int (0 : Int32), .int (0 : Int32), .int (nI (([] : List Int32).length))])), (v, .inl (cy 1, 16, .inl (fun _ => (0 : Int32))))] ++ (rl n rP (fun q => rowE cy hh (g q)) ++ Y)) H := hP
                    have hD : va_D A ([(a, .inr (10, [.int (nI w), .int (nI hh), .int s2, .int s3, .int s4, .ref qP, .ref qU, v7, v8, v9, v10])), (qP, .inl (cy 7, n, .inr (.inr (.inr (.inr (fun i => some (rP i))))))), (qU, .inl (cy 0, n, .inl (fun _ => (0 : Int32)))), (b, .inr (12, [.ref v, .int (0 : Int32), .int (0 : Int32), .int (nI (([] : List Int32).length))])), (v, .inl (cy 1, 16, .inl (fun _ => (0 : Int32))))] ++ (rl n rP (fun q => rowE cy hh (g q)) ++ Y)) := hD
                    have ok : sbOK ([] : List Int32) 16 (fun _ => (0 : Int32)) := sbOK_0
                    refine lv_aload hx hb dX10_lay_60 (lv_at hl 1 rfl) ?_
                    refine kc_R (va_runV (As := [.ref ln]) (rest := []) ⟨hx, hb, hml, hown, hts⟩ (c_J4_append_15ec4 b v 16 ln H.size (0 : Int32) ([] : List Int32) (List.replicate x (lyC n p9)) (fun _ => (0 : Int32)) ok (asc_repl (lyC_asc n p9) x) (by rw [List.length_replicate]; show 0 + x ≤ 99; omega)) (cwV 1 hts gX10_lay_J4_append_15ec4 rfl rfl rfl kd_J4_append_15ec4 ⟨by dsimp only; omega, by dsimp only; omega⟩) ⟨kP_blind (ES_ok D cy (List.replicate x (lyC n p9)) ln) D _ _ _, va_recv hK hP (ci := 12) (q0 := 3) rfl rfl, kStartS hE hP hD hS hA [3, 4] rfl rfl (kT_N hts inJ0 hK hln.tail hP hD hS hA [3, 4] rfl (by simp)) _⟩ rfl rfl hl.1 rfl (lv_room (Nat.le_of_ble_eq_true rfl)) dX10_lay_62 ⟨by show (((6 + 150 * p9 + 37 * y + 6 * x) + 1) + 1) + 1 ≤ 610; omega, by show (((30 + 15000 * p9 + 3750 * y + 624 * x) + 4) + 16) + 200 ≤ 60100; omega⟩) hP hD hS hA [3, 4] rfl (fun _ _ => Nat.le_of_ble_eq_true rfl) (fun u r_1 H locs hu hP hD hS => ?_)
                    obtain ⟨v_1, m_1, f_1⟩ := u
                    obtain ⟨rfl, ok⟩ := hu
                    rw [show ([] : List Int32).length + (List.replicate x (lyC n p9)).length = (([] : List Int32) ++ (List.replicate x (lyC n p9))).length from (List.length_append).symm] at hP hD
                    rw [wjn_2] at hP hD
                    have hP : va_P D vwCl ([(a, .inr (10, [.int (nI w), .int (nI hh), .int s2, .int s3, .int s4, .ref qP, .ref qU, v7, v8, v9, v10])), (qP, .inl (cy 7, n, .inr (.inr (.inr (.inr (fun i => some (rP i))))))), (qU, .inl (cy 0, n, .inl (fun _ => (0 : Int32)))), (r_1, .inr (12, [.ref v_1, .int (0 : Int32), .int (0 : Int32), .int (nI ((([] : List Int32) ++ (List.replicate x (lyC n p9))).length))])), (v_1, .inl (cy 1, m_1, .inl f_1))] ++ (rl n rP (fun q => rowE cy hh (g q)) ++ Y)) H := hP
                    have hD : va_D A ([(a, .inr (10, [.int (nI w), .int (nI hh), .int s2, .int s3, .int s4, .ref qP, .ref qU, v7, v8, v9, v10])), (qP, .inl (cy 7, n, .inr (.inr (.inr (.inr (fun i => some (rP i))))))), (qU, .inl (cy 0, n, .inl (fun _ => (0 : Int32)))), (r_1, .inr (12, [.ref v_1, .int (0 : Int32), .int (0 : Int32), .int (nI ((([] : List Int32) ++ (List.replicate x (lyC n p9))).length))])), (v_1, .inl (cy 1, m_1, .inl f_1))] ++ (rl n rP (fun q => rowE cy hh (g q)) ++ Y)) := hD
                    refine lv_iload_n hx hb dX10_lay_65 rfl (lv_at hl 3 rfl) ?_
                    refine lv_iconst (v := 1) hx hb dX10_lay_66 (by decide) ?_
                    refine lv_iadd hx hb dX10_lay_67 ?_
                    refine lv_iload_n hx hb dX10_lay_68 rfl (lv_at hl 5 rfl) ?_
                    have J3 : ∀ (aa : Nat) (H : Heap) (locs : List Loc) (ls : Array Slot), kStrAt [lyC n p9] aa A s s.heap → va_P D vwCl ([(a, .inr (10, [.int (nI w), .int (nI hh), .int s2, .int s3, .int s4, .ref qP, .ref qU, v7, v8, v9, v10])), (qP, .inl (cy 7, n, .inr (.inr (.inr (.inr (fun i => some (rP i))))))), (qU, .inl (cy 0, n, .inl (fun _ => (0 : Int32)))), (r_1, .inr (12, [.ref v_1, .int (0 : Int32), .int (0 : Int32), .int (nI ((([] : List Int32) ++ (List.replicate x (lyC n p9))).length))])), (v_1, .inl (cy 1, m_1, .inl f_1))] ++ (rl n rP (fun q => rowE cy hh (g q)) ++ Y)) H → va_D A ([(a, .inr (10, [.int (nI w), .int (nI hh), .int s2, .int s3, .int s4, .ref qP, .ref qU, v7, v8, v9, v10])), (qP, .inl (cy 7, n, .inr (.inr (.inr (.inr (fun i => some (rP i))))))), (qU, .inl (cy 0, n, .inl (fun _ => (0 : Int32)))), (r_1, .inr (12, [.ref v_1, .int (0 : Int32), .int (0 : Int32), .int (nI ((([] : List Int32) ++ (List.replicate x (lyC n p9))).length))])), (v_1, .inl (cy 1, m_1, .inl f_1))] ++ (rl n rP (fun q => rowE cy hh (g q)) ++ Y)) → va_S A s.heap H locs → lv_has ls 6 [(5, .int (nI x)), (4, .ref ln), (3, .int (nI y)), (2, .int (nI p9)), (0, .ref a), (1, .int (nI n))] → W p l e ({ frames := 8, cells := 610, slots := 60100, locals := 500 } : Room) s m args below meth c H locs ((((6 + 150 * p9 + 37 * y + 6 * x) + 1) + 1) + 1) ((((30 + 15000 * p9 + 3750 * y + 624 * x) + 4) + 16) + 200) QQ (F0 m 79 ls [.ref aa, .ref r_1]) := by
                      intro aa H locs ls hTo hP hD hS hl
                      refine kc_R (va_runV (As := [.ref aa]) (rest := []) ⟨hx, hb, hml, hown, hts⟩ (c_J4_append_15ec4 r_1 v_1 m_1 aa H.size (0 : Int32) (([] : List Int32) ++ (List.replicate x (lyC n p9))) [lyC n p9] f_1 ok (fun z hz => by rw [List.mem_singleton.mp hz]; exact lyC_asc n p9) (by rw [List.length_append, List.length_replicate]; show 0 + x + 1 ≤ 99; omega)) (cwV 1 hts gX10_lay_J4_append_15ec4 rfl rfl rfl kd_J4_append_15ec4 ⟨by dsimp only; omega, by dsimp only; omega⟩) ⟨kP_blind (ES_ok D cy [lyC n p9] aa) D _ _ _, va_recv hK hP (ci := 12) (q0 := 3) rfl rfl, kStartS hE hP hD hS hA [3, 4] rfl rfl (kT_old hTo hD hS hA [3, 4] rfl) _⟩ rfl rfl hl.1 rfl (lv_room (Nat.le_of_ble_eq_true rfl)) dX10_lay_79 ⟨by show ((((6 + 150 * p9 + 37 * y + 6 * x) + 1) + 1) + 1) + 1 ≤ 610; omega, by show ((((30 + 15000 * p9 + 3750 * y + 624 * x) + 4) + 16) + 200) + 200 ≤ 60100; omega⟩) hP hD hS hA [3, 4] rfl (fun _ _ => Nat.le_of_ble_eq_true rfl) (fun u r_2 H locs hu hP hD hS => ?_)
                      obtain ⟨v_2, m_2, f_2⟩ := u
                      obtain ⟨rfl, ok⟩ := hu
                      rw [show (([] : List Int32) ++ (List.replicate x (lyC n p9))).length + [lyC n p9].length = ((([] : List Int32) ++ (List.replicate x (lyC n p9))) ++ [lyC n p9]).length from (List.length_append).symm] at hP hD
                      rw [wjn_2] at hP hD
                      have hP : va_P D vwCl ([(a, .inr (10, [.int (nI w), .int (nI hh), .int s2, .int s3, .int s4, .ref qP, .ref qU, v7, v8, v9, v10])), (qP, .inl (cy 7, n, .inr (.inr (.inr (.inr (fun i => some (rP i))))))), (qU, .inl (cy 0, n, .inl (fun _ => (0 : Int32)))), (r_2, .inr (12, [.ref v_2, .int (0 : Int32), .int (0 : Int32), .int (nI (((([] : List Int32) ++ (List.replicate x (lyC n p9))) ++ [lyC n p9]).length))])), (v_2, .inl (cy 1, m_2, .inl f_2))] ++ (rl n rP (fun q => rowE cy hh (g q)) ++ Y)) H := hP
                      have hD : va_D A ([(a, .inr (10, [.int (nI w), .int (nI hh), .int s2, .int s3, .int s4, .ref qP, .ref qU, v7, v8, v9, v10])), (qP, .inl (cy 7, n, .inr (.inr (.inr (.inr (fun i => some (rP i))))))), (qU, .inl (cy 0, n, .inl (fun _ => (0 : Int32)))), (r_2, .inr (12, [.ref v_2, .int (0 : Int32), .int (0 : Int32), .int (nI (((([] : List Int32) ++ (List.replicate x (lyC n p9))) ++ [lyC n p9]).length))])), (v_2, .inl (cy 1, m_2, .inl f_2))] ++ (rl n rP (fun q => rowE cy hh (g q)) ++ Y)) := hD
                      refine kc_R (va_runV (As := []) (rest := []) ⟨hx, hb, hml, hown, hts⟩ (c_J4_toString_0e30d r_2 v_2 m_2 ((([] : List Int32) ++ (List.replicate x (lyC n p9))) ++ [lyC n p9]).length H.size (0 : Int32) f_2 ok.1 ok.2.1 ok.2.2.1) (cwV 0 hts gX10_lay_J4_toString_0e30d rfl rfl rfl kd_J4_toString_0e30d ⟨by dsimp only; omega, by dsimp only; omega⟩) ⟨kP_blind (EL_ok D cy) D _ _ _, va_recv hK hP (ci := 12) (q0 := 3) rfl rfl, kStart (EL_ok D cy) hEL hP hD hS hA [3, 4] rfl rfl _⟩ rfl rfl hl.1 rfl (lv_room (Nat.le_of_ble_eq_true rfl)) dX10_lay_82 ⟨by show (((((6 + 150 * p9 + 37 * y + 6 * x) + 1) + 1) + 1) + 1) + 2 ≤ 610; omega, by show (((((30 + 15000 * p9 + 3750 * y + 624 * x) + 4) + 16) + 200) + 200) + 204 ≤ 60100; omega⟩) hP hD hS hA [3, 4] rfl (fun _ _ => Nat.le_of_ble_eq_true rfl) (fun u s0 H locs hu hP hD hS => ?_)
                      obtain ⟨sv0, sf0⟩ := u
                      have hsf0 : ∀ j, j < ((([] : List Int32) ++ (List.replicate x (lyC n p9))) ++ [lyC n p9]).length → sf0 j = ((([] : List Int32) ++ (List.replicate x (lyC n p9))) ++ [lyC n p9]).getD j 0 := fun j hj => (hu.2 j hj).trans (ok.2.2.2 j hj)
                      have hP : va_P D vwCl (([(a, .inr (10, [.int (nI w), .int (nI hh), .int s2, .int s3, .int s4, .ref qP, .ref qU, v7, v8, v9, v10])), (qP, .inl (cy 7, n, .inr (.inr (.inr (.inr (fun i => some (rP i))))))), (qU, .inl (cy 0, n, .inl (fun _ => (0 : Int32)))), (r_2, .inr (12, [.ref v_2, .int (0 : Int32), .int (0 : Int32), .int (nI (((([] : List Int32) ++ (List.replicate x (lyC n p9))) ++ [lyC n p9]).length))])), (v_2, .inl (cy 1, m_2, .inl f_2))] ++ (rl n rP (fun q => rowE cy hh (g q)) ++ Y)) ++ [(s0, .inr (11, [.ref sv0, .int (0 : Int32), .int (0 : Int32), .int (0 : Int32)])), (sv0, .inl (cy 1, ((([] : List Int32) ++ (List.replicate x (lyC n p9))) ++ [lyC n p9]).length, .inl sf0))]) H := hP
                      have hD : va_D A (([(a, .inr (10, [.int (nI w), .int (nI hh), .int s2, .int s3, .int s4, .ref qP, .ref qU, v7, v8, v9, v10])), (qP, .inl (cy 7, n, .inr (.inr (.inr (.inr (fun i => some (rP i))))))), (qU, .inl (cy 0, n, .inl (fun _ => (0 : Int32)))), (r_2, .inr (12, [.ref v_2, .int (0 : Int32), .int (0 : Int32), .int (nI (((([] : List Int32) ++ (List.replicate x (lyC n p9))) ++ [lyC n p9]).length))])), (v_2, .inl (cy 1, m_2, .inl f_2))] ++ (rl n rP (fun q => rowE cy hh (g q)) ++ Y)) ++ [(s0, .inr (11, [.ref sv0, .int (0 : Int32), .int (0 : Int32), .int (0 : Int32)])), (sv0, .inl (cy 1, ((([] : List Int32) ++ (List.replicate x (lyC n p9))) ++ [lyC n p9]).length, .inl sf0))]) := hD
                      have hP := va_P.swap hP
                      have hD := va_D.swap hD
                      have hP : va_P D vwCl ([(a, .inr (10, [.int (nI w), .int (nI hh), .int s2, .int s3, .int s4, .ref qP, .ref qU, v7, v8, v9, v10])), (qP, .inl (cy 7, n, .inr (.inr (.inr (.inr (fun i => some (rP i))))))), (qU, .inl (cy 0, n, .inl (fun _ => (0 : Int32)))), (r_2, .inr (12, [.ref v_2, .int (0 : Int32), .int (0 : Int32), .int (nI (((([] : List Int32) ++ (List.replicate x (lyC n p9))) ++ [lyC n p9]).length))])), (v_2, .inl (cy 1, m_2, .inl f_2)), (s0, .inr (11, [.ref sv0, .int (0 : Int32), .int (0 : Int32), .int (0 : Int32)])), (sv0, .inl (cy 1, ((([] : List Int32) ++ (List.replicate x (lyC n p9))) ++ [lyC n p9]).length, .inl sf0))] ++ (rl n rP (fun q => rowE cy hh (g q)) ++ Y)) H := hP
                      have hD : va_D A ([(a, .inr (10, [.int (nI w), .int (nI hh), .int s2, .int s3, .int s4, .ref qP, .ref qU, v7, v8, v9, v10])), (qP, .inl (cy 7, n, .inr (.inr (.inr (.inr (fun i => some (rP i))))))), (qU, .inl (cy 0, n, .inl (fun _ => (0 : Int32)))), (r_2, .inr (12, [.ref v_2, .int (0 : Int32), .int (0 : Int32), .int (nI (((([] : List Int32) ++ (List.replicate x (lyC n p9))) ++ [lyC n p9]).length))])), (v_2, .inl (cy 1, m_2, .inl f_2)), (s0, .inr (11, [.ref sv0, .int (0 : Int32), .int (0 : Int32), .int (0 : Int32)])), (sv0, .inl (cy 1, ((([] : List Int32) ++ (List.replicate x (lyC n p9))) ++ [lyC n p9]).length, .inl sf0))] ++ (rl n rP (fun q => rowE cy hh (g q)) ++ Y)) := hD
                      refine lv_astore (lv' := [(4, .ref s0), (5, .int (nI x)), (3, .int (nI y)), (2, .int (nI p9)), (0, .ref a), (1, .int (nI n))]) hx hb dX10_lay_85 hl (by decide) rfl (fun ls hl => ?_)
                      have et : ((([] : List Int32) ++ (List.replicate x (lyC n p9))) ++ [lyC n p9]) = List.replicate (x + 1) (lyC n p9) := repl_s _ _
                      refine lv_iinc (v := (nI (x + 1))) (lv' := [(5, .int (nI (x + 1))), (4, .ref s0), (3, .int (nI y)), (2, .int (nI p9)), (0, .ref a), (1, .int (nI n))]) hx hb dX10_lay_87 hl (k := 1) rfl (by rw [nI_succ]; rfl) (by decide) rfl (fun ls hl => ?_)
                      refine lv_goto (tgt := 44) hx hb dX10_lay_90 (by decide) ?_
                      have hm : ∀ z ∈ Y, z ∈ Y ++ ([(r_2, .inr (12, [.ref v_2, .int (0 : Int32), .int (0 : Int32), .int (nI (((([] : List Int32) ++ (List.replicate x (lyC n p9))) ++ [lyC n p9]).length))])), (v_2, .inl (cy 1, m_2, .inl f_2)), (s0, .inr (11, [.ref sv0, .int (0 : Int32), .int (0 : Int32), .int (0 : Int32)])), (sv0, .inl (cy 1, ((([] : List Int32) ++ (List.replicate x (lyC n p9))) ++ [lyC n p9]).length, .inl sf0))] : va_W) := fun z hz => List.mem_append_left _ hz
                      have hs : strM cy (List.replicate (x + 1) (lyC n p9)) s0 (Y ++ [(r_2, .inr (12, [.ref v_2, .int (0 : Int32), .int (0 : Int32), .int (nI (((([] : List Int32) ++ (List.replicate x (lyC n p9))) ++ [lyC n p9]).length))])), (v_2, .inl (cy 1, m_2, .inl f_2)), (s0, .inr (11, [.ref sv0, .int (0 : Int32), .int (0 : Int32), .int (0 : Int32)])), (sv0, .inl (cy 1, ((([] : List Int32) ++ (List.replicate x (lyC n p9))) ++ [lyC n p9]).length, .inl sf0))]) := ⟨sv0, sf0, List.mem_append_right _ (by simp), List.mem_append_right _ (by rw [← et]; simp), by rw [← et]; exact hsf0⟩
                      have hP : va_P D vwCl ([(a, .inr (10, [.int (nI w), .int (nI hh), .int s2, .int s3, .int s4, .ref qP, .ref qU, v7, v8, v9, v10])), (qP, .inl (cy 7, n, .inr (.inr (.inr (.inr (fun i => some (rP i))))))), (qU, .inl (cy 0, n, .inl (fun _ => (0 : Int32))))] ++ (rl n rP (fun q => rowE cy hh (g q)) ++ (Y ++ [(r_2, .inr (12, [.ref v_2, .int (0 : Int32), .int (0 : Int32), .int (nI (((([] : List Int32) ++ (List.replicate x (lyC n p9))) ++ [lyC n p9]).length))])), (v_2, .inl (cy 1, m_2, .inl f_2)), (s0, .inr (11, [.ref sv0, .int (0 : Int32), .int (0 : Int32), .int (0 : Int32)])), (sv0, .inl (cy 1, ((([] : List Int32) ++ (List.replicate x (lyC n p9))) ++ [lyC n p9]).length, .inl sf0))]))) H := va_P.back (X := [(a, .inr (10, [.int (nI w), .int (nI hh), .int s2, .int s3, .int s4, .ref qP, .ref qU, v7, v8, v9, v10])), (qP, .inl (cy 7, n, .inr (.inr (.inr (.inr (fun i => some (rP i))))))), (qU, .inl (cy 0, n, .inl (fun _ => (0 : Int32))))]) (G := [(r_2, .inr (12, [.ref v_2, .int (0 : Int32), .int (0 : Int32), .int (nI (((([] : List Int32) ++ (List.replicate x (lyC n p9))) ++ [lyC n p9]).length))])), (v_2, .inl (cy 1, m_2, .inl f_2)), (s0, .inr (11, [.ref sv0, .int (0 : Int32), .int (0 : Int32), .int (0 : Int32)])), (sv0, .inl (cy 1, ((([] : List Int32) ++ (List.replicate x (lyC n p9))) ++ [lyC n p9]).length, .inl sf0))]) hP
                      have hD : va_D A ([(a, .inr (10, [.int (nI w), .int (nI hh), .int s2, .int s3, .int s4, .ref qP, .ref qU, v7, v8, v9, v10])), (qP, .inl (cy 7, n, .inr (.inr (.inr (.inr (fun i => some (rP i))))))), (qU, .inl (cy 0, n, .inl (fun _ => (0 : Int32))))] ++ (rl n rP (fun q => rowE cy hh (g q)) ++ (Y ++ [(r_2, .inr (12, [.ref v_2, .int (0 : Int32), .int (0 : Int32), .int (nI (((([] : List Int32) ++ (List.replicate x (lyC n p9))) ++ [lyC n p9]).length))])), (v_2, .inl (cy 1, m_2, .inl f_2)), (s0, .inr (11, [.ref sv0, .int (0 : Int32), .int (0 : Int32), .int (0 : Int32)])), (sv0, .inl (cy 1, ((([] : List Int32) ++ (List.replicate x (lyC n p9))) ++ [lyC n p9]).length, .inl sf0))]))) := va_D.back (X := [(a, .inr (10, [.int (nI w), .int (nI hh), .int s2, .int s3, .int s4, .ref qP, .ref qU, v7, v8, v9, v10])), (qP, .inl (cy 7, n, .inr (.inr (.inr (.inr (fun i => some (rP i))))))), (qU, .inl (cy 0, n, .inl (fun _ => (0 : Int32))))]) (G := [(r_2, .inr (12, [.ref v_2, .int (0 : Int32), .int (0 : Int32), .int (nI (((([] : List Int32) ++ (List.replicate x (lyC n p9))) ++ [lyC n p9]).length))])), (v_2, .inl (cy 1, m_2, .inl f_2)), (s0, .inr (11, [.ref sv0, .int (0 : Int32), .int (0 : Int32), .int (0 : Int32)])), (sv0, .inl (cy 1, ((([] : List Int32) ++ (List.replicate x (lyC n p9))) ++ [lyC n p9]).length, .inl sf0))]) hD
                      refine W.widen (k := 6 + 150 * p9 + 37 * y + 6 * (x + 1)) (n := 30 + 15000 * p9 + 3750 * y + 624 * (x + 1)) (by omega) (by omega) ?_
                      exact ih3 (x + 1) s0 _ H _ ls (by omega) (by omega) (fun q hq => (hrows q hq).mono hm) (hrow.mono hm) (Or.inr hs) (fun _ => hs) hP hD hS (lv_sub hl [0, 1, 2, 3, 4, 5] rfl)
                    rw [show nI p9 + (1 : Int32) = nI (p9 + 1) from nI_1 p9]
                    by_cases hc : p9 + 1 < n
                    · skip
                      refine lv_icmp_ge (tgt := 77) hx hb dX10_lay_69 (by decide) (fun h5 => absurd h5 (nI_ge hc (by omega))) (fun _ => ?_)
                      obtain ⟨a6, hRa6, hTa6⟩ := hL.2.2.2.2.2.2.2 ("PeepBoxLaw$Show", 73, ".", [46]) (by decide +kernel)
                      refine va_ldcS hx hb hown hRa6 dX10_lay_72 ?_
                      refine lv_goto (tgt := 79) hx hb dX10_lay_74 (by decide) ?_
                      exact J3 _ H _ ls (by rw [lyC, if_pos hc]; exact hTa6) hP hD hS hl
                    · skip
                      refine lv_icmp_ge (tgt := 77) hx hb dX10_lay_69 (by decide) (fun _ => ?_) (fun h5 => absurd (nI_le (a := n) (b := p9 + 1) (by omega) (by omega)) h5)
                      obtain ⟨a6, hRa6, hTa6⟩ := hL.2.2.2.2.2.2.2 ("PeepBoxLaw$Show", 75, "a", [97]) (by decide +kernel)
                      refine va_ldcS hx hb hown hRa6 dX10_lay_77 ?_
                      exact J3 _ H _ ls (by rw [lyC, if_neg hc]; exact hTa6) hP hD hS hl
                  · skip
                    have exw : x = w := by omega
                    have hlm := hlm (by omega)
                    rw [exw] at hlm
                    refine lv_icmp_ge (tgt := 93) hx hb dX10_lay_50 (by decide) (fun _ => ?_) (fun h4 => absurd (nI_le (a := w) (b := x) (by omega) (by omega)) h4)
                    refine lv_aload_n hx hb dX10_lay_93 rfl (lv_at hl 4 rfl) ?_
                    refine va_get (D := D) (ci := 10) (v := .ref qP) (C := RX10) (T := TX10) (N := 11) hx hb hts inX10 hown hK hP 0 rfl rfl 5 (by decide) f24 (fun _ h9 => h9) rfl dX10_lay_94 ?_
                    refine lv_iload_n hx hb dX10_lay_97 rfl (lv_at hl 3 rfl) ?_
                    refine kg_alda hx hb hK hP 1 7 rfl rfl (vp_in_nI hp (by omega)) dX10_lay_98 ?_
                    rw [nI_clamp (by omega)]
                    show W p l e ({ frames := 8, cells := 610, slots := 60100, locals := 500 } : Room) s m args below meth c H _ (6 + 150 * p9 + 37 * y + 6 * x) (30 + 15000 * p9 + 3750 * y + 624 * x) QQ (F0 m 99 ls [.ref (rP p9)])
                    refine lv_iload_n hx hb dX10_lay_99 rfl (lv_at hl 2 rfl) ?_
                    refine lv_aload hx hb dX10_lay_100 (lv_at hl 1 rfl) ?_
                    obtain ⟨lv, lf, m1, m2, hlf⟩ := id hlm
                    obtain ⟨k1, hk1⟩ := List.getElem?_of_mem m1
                    refine va_astq (r := (RJ0, TJ0, 4)) hx hb hK hP hD hS (3 + p9) 6 (3 + (n + k1)) 11 (rl_getM hp) rfl (tl_get hk1) rfl (vp_in_nI hy (by omega)) dX10_lay_102 (fun H locs hP hD hS => ?_)
                    rw [nI_clamp (by omega)] at hP hD
                    have e9 := rl_setM (X := [(a, .inr (10, [.int (nI w), .int (nI hh), .int s2, .int s3, .int s4, .ref qP, .ref qU, v7, v8, v9, v10])), (qP, .inl (cy 7, n, .inr (.inr (.inr (.inr (fun i => some (rP i))))))), (qU, .inl (cy 0, n, .inl (fun _ => (0 : Int32))))]) (Y := Y) (n := n) (r := rP) (e := fun q => rowE cy hh (g q)) (x := rowE cy hh (va_up (g p9) y (some ln))) hp
                    rw [rowE_if] at e9
                    have hP : va_P D vwCl ([(a, .inr (10, [.int (nI w), .int (nI hh), .int s2, .int s3, .int s4, .ref qP, .ref qU, v7, v8, v9, v10])), (qP, .inl (cy 7, n, .inr (.inr (.inr (.inr (fun i => some (rP i))))))), (qU, .inl (cy 0, n, .inl (fun _ => (0 : Int32))))] ++ (rl n rP (fun q => rowE cy hh ((fun q => if q = p9 then va_up (g p9) y (some ln) else g q) q)) ++ Y)) H := by rw [← e9]; exact hP
                    have hD : va_D A ([(a, .inr (10, [.int (nI w), .int (nI hh), .int s2, .int s3, .int s4, .ref qP, .ref qU, v7, v8, v9, v10])), (qP, .inl (cy 7, n, .inr (.inr (.inr (.inr (fun i => some (rP i))))))), (qU, .inl (cy 0, n, .inl (fun _ => (0 : Int32))))] ++ (rl n rP (fun q => rowE cy hh ((fun q => if q = p9 then va_up (g p9) y (some ln) else g q) q)) ++ Y)) := by rw [← e9]; exact hD
                    refine lv_iinc (v := (nI (y + 1))) (lv' := [(3, .int (nI (y + 1))), (5, .int (nI x)), (4, .ref ln), (2, .int (nI p9)), (0, .ref a), (1, .int (nI n))]) hx hb dX10_lay_103 hl (k := 2) rfl (by rw [nI_succ]; rfl) (by decide) rfl (fun ls hl => ?_)
                    refine lv_goto (tgt := 29) hx hb dX10_lay_106 (by decide) ?_
                    refine W.widen (k := 6 + 150 * p9 + 37 * (y + 1)) (n := 30 + 15000 * p9 + 3750 * (y + 1)) (by omega) (by omega) ?_
                    refine ih2 (y + 1) _ Y H _ ls (by omega) (by omega) (fun q hq => ?_) ?_ hP hD hS (lv_sub hl [0, 3, 4, 5] rfl)
                    · rw [show (if q = p9 then va_up (g p9) y (some ln) else g q) = g q from if_neg (by omega)]; exact hrows q hq
                    · rw [show (if p9 = p9 then va_up (g p9) y (some ln) else g p9) = va_up (g p9) y (some ln) from if_pos rfl]; exact hrow.up (fun _ h => h) hlm
              refine W.widen (k := 6 + 150 * p9 + 37 * y + 6 * 0) (n := 30 + 15000 * p9 + 3750 * y + 624 * 0) (by omega) (by omega) ?_
              exact J2 (w + 1) 0 a3 Y H _ ls (by omega) (by omega) hrows hrow (Or.inl hTa3) (fun h => absurd h (by omega)) hP hD hS (lv_sub hl [0, 1, 2, 3, 4, 5] rfl)
            · skip
              have eyh : y = hh := by omega
              rw [eyh] at hrow
              refine lv_icmp_ge (tgt := 109) hx hb dX10_lay_34 (by decide) (fun _ => ?_) (fun h2 => absurd (nI_le (a := hh) (b := y) (by omega) (by omega)) h2)
              refine lv_iinc (v := (nI (p9 + 1))) (lv' := [(2, .int (nI (p9 + 1))), (3, .int (nI y)), (0, .ref a), (1, .int (nI n))]) hx hb dX10_lay_109 hl (k := 1) rfl (by rw [nI_succ]; rfl) (by decide) rfl (fun ls hl => ?_)
              refine lv_goto (tgt := 22) hx hb dX10_lay_112 (by decide) ?_
              refine W.widen (k := 6 + 150 * (p9 + 1)) (n := 30 + 15000 * (p9 + 1)) (by omega) (by omega) ?_
              exact ih (p9 + 1) g Y H _ ls (by omega) (by omega) (fun q hq => if h : q = p9 then h ▸ hrow else hrows q (by omega)) hP hD hS (lv_sub hl [0, 2, 3] rfl)
        refine W.widen (k := 6 + 150 * p9 + 37 * 0) (n := 30 + 15000 * p9 + 3750 * 0) (by omega) (by omega) ?_
        exact J1 (hh + 1) 0 g Y H _ ls (by omega) (by omega) hrows (fun j hj => absurd hj (by omega)) hP hD hS (lv_sub hl [0, 1, 2, 3] rfl)
      · skip
        have epn : p9 = n := by omega
        rw [epn] at hrows
        refine lv_icmp_ge (tgt := 115) hx hb dX10_lay_24 (by decide) (fun _ => ?_) (fun h1 => absurd (nI_le (a := n) (b := p9) (by omega) (by omega)) h1)
        refine lv_aload_n hx hb dX10_lay_115 rfl (lv_at hl 1 rfl) ?_
        have hg : ∀ q, q < n → ∀ y, y < hh → g q y = some ((g q y).getD 0) := fun q hq y hy => by obtain ⟨r, h1, -⟩ := hrows q hq y hy; rw [h1]; rfl
        obtain ⟨hP, hD⟩ := rows_refs (rL := fun q y => (g q y).getD 0) hP hD hg
        rw [hQQ]
        exact kr_R (r := a) ((qP, qU, rP, (fun q y => (g q y).getD 0), Y) : Nat × Nat × (Nat → Nat) × (Nat → Nat → Nat) × va_W) ⟨rfl, fun q hq y hy => by obtain ⟨r, h1, h2⟩ := hrows q hq y hy; show strM cy _ ((g q y).getD 0) Y; rw [h1]; exact h2⟩ hx hb hr (Or.inl ⟨_, rfl⟩) hlocks hP hD hS dX10_lay_116 (by omega) (by omega)
  refine W.widen (k := 6 + 150 * 0) (n := 30 + 15000 * 0) (by omega) (by omega) ?_
  exact J (n + 1) 0 (fun _ _ => none) ([] : va_W) H _ ls (by omega) (by omega) (fun q hq => absurd hq (by omega)) hP hD hS (lv_sub hl [0, 1, 2] rfl)
