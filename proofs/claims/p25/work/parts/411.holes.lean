/-! randomShow: the holes (rs3.py) -/
def hlN (N : Nat) : Nat := if N = 0 then 1 else N
def hlF (x y : Nat) : Nat → Int32 := upd (upd (fun _ => 0) 0 (nI x)) 1 (nI y)
/-- the hole k, of N drawn ones -/
def hlE (w hh : Nat) (s : Int32) (N k : Nat) : Nat → Int32 := if N = 0 then fun _ => 0 else hlF (hlX w s k) (hlY hh s k)
def hlEI (w hh : Nat) (s : Int32) (i k : Nat) : Nat → Int32 := if k < i then hlF (hlX w s k) (hlY hh s k) else fun _ => 0
theorem hlF_at {x y j : Nat} (hx : x < 10000) (hy : y < 10000) (hj : j < 2) : hlF x y j = nI (pr2 x y j) ∧ pr2 x y j < 10000 := by
  rcases (show j = 0 ∨ j = 1 by omega) with rfl | rfl
  · exact ⟨rfl, hx⟩
  · exact ⟨rfl, hy⟩
theorem hlRow_if {cy : Nat → ClassId} {i : Nat} {X : Nat → Int32} {E : Nat → Nat → Int32} : (fun k => if k = i then (.inl (cy 0, 2, .inl X) : va_E) else .inl (cy 0, 2, .inl (E k))) = fun k => .inl (cy 0, 2, .inl ((fun k => if k = i then X else E k) k)) := by
  funext k
  show (if k = i then (.inl (cy 0, 2, .inl X) : va_E) else _) = .inl (cy 0, 2, .inl (if k = i then X else E k))
  by_cases h : k = i
  · rw [if_pos h, if_pos h]
  · rw [if_neg h, if_neg h]
theorem hlEI_step (w hh : Nat) (s : Int32) (i : Nat) : (fun k => if k = i then upd ((fun k => if k = i then upd (hlEI w hh s i i) (0 : Int32).toNatClampNeg (nI (rnV (hlS i s) % w)) else hlEI w hh s i k) i) (1 : Int32).toNatClampNeg (nI (rnV (rnS (hlS i s)) % hh)) else (fun k => if k = i then upd (hlEI w hh s i i) (0 : Int32).toNatClampNeg (nI (rnV (hlS i s) % w)) else hlEI w hh s i k) k) = hlEI w hh s (i + 1) := by
  funext k
  show (if k = i then upd (if i = i then upd (hlEI w hh s i i) (0 : Int32).toNatClampNeg (nI (rnV (hlS i s) % w)) else hlEI w hh s i i) (1 : Int32).toNatClampNeg (nI (rnV (rnS (hlS i s)) % hh)) else (if k = i then upd (hlEI w hh s i i) (0 : Int32).toNatClampNeg (nI (rnV (hlS i s) % w)) else hlEI w hh s i k)) = _
  by_cases h : k = i
  · rw [if_pos h, if_pos rfl, h]
    unfold hlEI
    rw [if_neg (Nat.lt_irrefl i), if_pos (Nat.lt_succ_self i)]
    rfl
  · rw [if_neg h, if_neg h]
    unfold hlEI
    by_cases c : k < i
    · rw [if_pos c, if_pos (by omega)]
    · rw [if_neg c, if_neg (by omega)]
theorem pm_pool {P C W : va_W} {n k : Nat} {r : Nat → Nat} {e : Nat → va_E} (h : k < n) : (P ++ (C ++ (rl n r e ++ W))).Perm (P ++ ((C ++ [(r k, e k)]) ++ (rl k r e ++ (rl (n - k - 1) (fun i => r (k + 1 + i)) (fun i => e (k + 1 + i)) ++ W)))) := by
  rw [rl_cut h, List.append_assoc (rl k r e), List.append_assoc [(r k, e k)]]
  exact pm_mid
theorem pm_holes {α : Type} {o q : α} {P C h Y G L : List α} : ((((P ++ [o]) ++ (C ++ (h ++ (Y ++ G)))) ++ [q]) ++ L).Perm ((P ++ [q]) ++ (C ++ (L ++ (Y ++ (G ++ ([o] ++ h)))))) := by
  classical
  exact List.perm_iff_count.mpr (fun x => by simp only [List.count_append]; omega)
set_option maxHeartbeats 8000000 in
set_option maxRecDepth 100000 in
theorem rs_holes {p : Program} {l : Launch} {e : Env} {s : State} {m : MethodId} {args : Array Value} {below : List Frame} {meth : Method} {c : Code} {D : va_G} {cy : Nat → ClassId} {ad : Nat → Nat} {A : Nat → Prop} {QQ : State → Prop} {st : St} {u : Nat → Nat} {qo qb r a : Nat} {n w hh qH qh0 : Nat} {sd s2 s3 s4 : Int32} {v5 v6 v8 v9 v10 : Value} {Y0 G : va_W} {tx0 : List Int32} {c0 s0 : Nat} (C : RC p s m c args D cy ad A) (hw : 1 ≤ w ∧ w ≤ 6) (hh4 : 1 ≤ hh ∧ hh ≤ 4) (hn : n ≤ 4) (htx0 : tx0.length ≤ 200) (hc0 : c0 ≤ 2000) (hs0 : s0 ≤ 200000) {f : Int32} {b B : Nat → Int32} {H : Heap} {locs : List Loc} {ls : Array Slot} (T : TxR tx0 f b B) (hP : va_P D vwCl ([(r, .inr (9, [.int sd])), (a, .inr (10, [.int (nI w), .int (nI hh), .int s2, .int s3, .int s4, v5, v6, .ref qH, v8, v9, v10])), (qH, .inl (cy 4, 1, .inr (.inr (.inr (.inr (fun i => some ((fun _ => qh0) i)))))))] ++ ((CWB cy u qo (stW st f b) qb B) ++ ([(qh0, .inl (cy 0, 2, .inl (fun _ => 0)))] ++ (Y0 ++ G)))) H) (hD : va_D A ([(r, .inr (9, [.int sd])), (a, .inr (10, [.int (nI w), .int (nI hh), .int s2, .int s3, .int s4, v5, v6, .ref qH, v8, v9, v10])), (qH, .inl (cy 4, 1, .inr (.inr (.inr (.inr (fun i => some ((fun _ => qh0) i)))))))] ++ ((CWB cy u qo (stW st f b) qb B) ++ ([(qh0, .inl (cy 0, 2, .inl (fun _ => 0)))] ++ (Y0 ++ G))))) (hS : va_S A s.heap H locs) (hl : lv_has ls 10 [(4, .int (nI n)), (3, .ref a), (0, .ref qo), (1, .ref qb), (2, .ref r)]) (K : ∀ (N qH9 : Nat) (rH : Nat → Nat) (f : Int32) (b B : Nat → Int32) (G : va_W) (H : Heap) (locs : List Loc) (ls : Array Slot), N = rnV sd % 4 → TxR (tx0 ++ hlT w hh (rnS sd) N) f b B → va_P D vwCl ([(r, .inr (9, [.int (hlS N (rnS sd))])), (a, .inr (10, [.int (nI w), .int (nI hh), .int s2, .int s3, .int s4, v5, v6, .ref qH9, v8, v9, v10])), (qH9, refsE (cy 4) (hlN N) rH)] ++ ((CWB cy u qo (stW st f b) qb B) ++ (rl (hlN N) rH (fun k => .inl (cy 0, 2, .inl (hlE w hh (rnS sd) N k))) ++ (Y0 ++ G)))) H → va_D A ([(r, .inr (9, [.int (hlS N (rnS sd))])), (a, .inr (10, [.int (nI w), .int (nI hh), .int s2, .int s3, .int s4, v5, v6, .ref qH9, v8, v9, v10])), (qH9, refsE (cy 4) (hlN N) rH)] ++ ((CWB cy u qo (stW st f b) qb B) ++ (rl (hlN N) rH (fun k => .inl (cy 0, 2, .inl (hlE w hh (rnS sd) N k))) ++ (Y0 ++ G)))) → va_S A s.heap H locs → lv_has ls 10 [(4, .int (nI n)), (3, .ref a), (0, .ref qo), (1, .ref qb), (2, .ref r)] → W p l e ({ frames := 100, cells := 4000, slots := 300000, locals := 4000 } : Room) s m args below meth c H locs (c0 + 10) (s0 + 20) QQ (F0 m 334 ls [])) : W p l e ({ frames := 100, cells := 4000, slots := 300000, locals := 4000 } : Room) s m args below meth c H locs c0 s0 QQ (F0 m 240 ls []) := by
  obtain ⟨hx, hb, hml, hown, hts, hEZ, hA⟩ := C
  obtain ⟨⟨hEL, hDig, hVar, hNest⟩, hEW, hEH⟩ := id hEZ
  have hE := hEL.1
  have hL := hEL.2
  have hK := hE.1
  have hW1 := hEW.2.1
  have hW2 := hEW.2.2
  have aI := hts (.arrayClass .int) (by decide +kernel)
  have kl152 := hts (.classLink RL 152 "[[I") (by decide +kernel)
  have f154 := hts (.fieldLink RL 154 "PeepBoxLaw$Show" "holes" "[[I") (by decide +kernel)
  have inX10 : ∀ w ∈ wsX100, w ∈ wsL_randomShow := by decide +kernel
  have f113 := hts (.fieldLink RL 113 "PeepBoxLaw$Show" "width" "I") (by decide +kernel)
  have f117 := hts (.fieldLink RL 117 "PeepBoxLaw$Show" "height" "I") (by decide +kernel)
  refine lv_aload_n hx hb dL_randomShow_240 rfl (lv_at hl 4 rfl) ?_
  refine lv_iconst (v := 4) hx hb dL_randomShow_241 (by decide) ?_
  refine kc_i (va_runV (As := [.int (4 : Int32)]) (rest := []) ⟨hx, hb, hml, hown, hts⟩ (c_X9_below r (4) H.size sd (by omega) (by omega)) (cwV 1 hts gL_randomShow_X9_below rfl rfl rfl kd_X9_below ⟨Nat.le_of_ble_eq_true rfl, Nat.le_of_ble_eq_true rfl⟩) ⟨kP_blind (EN_ok D cy) D _ _ _, va_recv hK hP (ci := 9) (q0 := 0) rfl rfl, kStart (EN_ok D cy) hE hP hD hS hA [0] rfl rfl _⟩ rfl rfl hl.1 rfl (lv_room (Nat.le_of_ble_eq_true rfl)) dL_randomShow_242 ⟨by show c0 + 0 ≤ 4000; omega, by show s0 + 0 ≤ 300000; omega⟩) hP hD hS hA [0] rfl (Nat.le_refl _) (fun H locs hP hD hS => ?_)
  rw [wjn_1] at hP hD
  have hP : va_P D vwCl ([(r, .inr (9, [.int (rnS sd)])), (a, .inr (10, [.int (nI w), .int (nI hh), .int s2, .int s3, .int s4, v5, v6, .ref qH, v8, v9, v10])), (qH, .inl (cy 4, 1, .inr (.inr (.inr (.inr (fun i => some ((fun _ => qh0) i)))))))] ++ ((CWB cy u qo (stW st f b) qb B) ++ ([(qh0, .inl (cy 0, 2, .inl (fun _ => 0)))] ++ (Y0 ++ G)))) H := hP
  have hD : va_D A ([(r, .inr (9, [.int (rnS sd)])), (a, .inr (10, [.int (nI w), .int (nI hh), .int s2, .int s3, .int s4, v5, v6, .ref qH, v8, v9, v10])), (qH, .inl (cy 4, 1, .inr (.inr (.inr (.inr (fun i => some ((fun _ => qh0) i)))))))] ++ ((CWB cy u qo (stW st f b) qb B) ++ ([(qh0, .inl (cy 0, 2, .inl (fun _ => 0)))] ++ (Y0 ++ G)))) := hD
  refine lv_istore (lv' := [(6, .int (nI (rnV sd % (4)))), (4, .int (nI n)), (3, .ref a), (0, .ref qo), (1, .ref qb), (2, .ref r)]) hx hb dL_randomShow_245 hl (by decide) rfl (fun ls hl => ?_)
  refine lv_iload hx hb dL_randomShow_247 (lv_at hl 0 rfl) ?_
  obtain ⟨N, eN⟩ : ∃ N : Nat, N = rnV sd % 4 := ⟨_, rfl⟩
  rw [← eN] at hl ⊢
  by_cases hN : N = 0
  · skip
    refine lv_if_le (tgt := 263) hx hb dL_randomShow_249 (by decide) (fun _ => ?_) (fun h1 => absurd ((by rw [hN]; decide)) h1)
    refine lv_iconst (v := 0) hx hb dL_randomShow_263 (by decide) ?_
    refine lv_istore (lv' := [(7, .int (0 : Int32)), (6, .int (nI N)), (4, .int (nI n)), (3, .ref a), (0, .ref qo), (1, .ref qb), (2, .ref r)]) hx hb dL_randomShow_264 hl (by decide) rfl (fun ls hl => ?_)
    refine lv_iload hx hb dL_randomShow_266 (lv_at hl 0 rfl) ?_
    refine lv_iload hx hb dL_randomShow_268 (lv_at hl 1 rfl) ?_
    rw [hN]
    refine lv_icmp_ge (tgt := 334) hx hb dL_randomShow_270 (by decide) (fun _ => ?_) (fun h2 => absurd ((by decide : (nI 0 : Int32) ≤ 0)) h2)
    have e9 : rl (hlN N) (fun _ => qh0) (fun k => .inl (cy 0, 2, .inl (hlE w hh (rnS sd) N k))) = [(qh0, .inl (cy 0, 2, .inl (fun _ => 0)))] := by rw [hN]; rfl
    refine W.widen (k := c0 + 10) (n := s0 + 20) (by omega) (by omega) ?_
    exact K N qH (fun _ => qh0) f b B G H _ ls eN (by rw [hN, hlT, List.append_nil]; exact T) (by rw [e9, hN]; exact hP) (by rw [e9, hN]; exact hD) hS (lv_sub hl [2, 3, 4, 5, 6] rfl)
  · skip
    have hN4 : N < 4 := by omega
    refine lv_if_le (tgt := 263) hx hb dL_randomShow_249 (by decide) (fun h1 => absurd h1 (nI_nle (by omega) (by omega))) (fun _ => ?_)
    refine lv_aload_n hx hb dL_randomShow_252 rfl (lv_at hl 2 rfl) ?_
    refine lv_iload hx hb dL_randomShow_253 (lv_at hl 0 rfl) ?_
    refine lv_iconst (v := 2) hx hb dL_randomShow_255 (by decide) ?_
    have hcy : s.vm.findClass ("[" ++ FieldType.int.toString) = some (cy 0) := (hK.2 0 _ rfl).2
    refine kn_mn (ty := .int) (N' := N) (K' := 2) (cB := cy 0) 4 0 (z := (2, .inl (fun _ => 0))) hx hb hown kl152 hL.2.2.2.2.2.1 aI hK rfl hcy hP hD hS hA (by omega) (by decide) (by decide) (by decide) (by decide) (by show c0 + (1 + N) ≤ 4000; omega) (by show s0 + (N + N * 2) ≤ 300000; omega) (fun c => by unfold Jvm.Free.Multi.innerC; rw [arrV_new]; rfl) dL_randomShow_256 (fun qH2 rH H hP hD hS => ?_)
    have pm := pm_holes (P := [(r, .inr (9, [.int (rnS sd)])), (a, .inr (10, [.int (nI w), .int (nI hh), .int s2, .int s3, .int s4, v5, v6, .ref qH, v8, v9, v10]))]) (o := (qH, refsE (cy 4) 1 (fun _ => qh0))) (q := (qH2, refsE (cy 4) N rH)) (C := CWB cy u qo (stW st f b) qb B) (h := [(qh0, .inl (cy 0, 2, .inl (fun _ => 0)))]) (Y := Y0) (G := G) (L := rl N rH (fun _ => .inl (cy 0, 2, .inl (fun _ => 0))))
    have hP : va_P D vwCl ([(r, .inr (9, [.int (rnS sd)])), (a, .inr (10, [.int (nI w), .int (nI hh), .int s2, .int s3, .int s4, v5, v6, .ref qH, v8, v9, v10])), (qH2, .inl (cy 4, N, .inr (.inr (.inr (.inr (fun i => some (rH i)))))))] ++ ((CWB cy u qo (stW st f b) qb B) ++ (rl N rH (fun k => .inl (cy 0, 2, .inl ((fun _ _ => (0 : Int32)) k))) ++ (Y0 ++ (G ++ (([(qH, refsE (cy 4) 1 (fun _ => qh0))] : va_W) ++ [(qh0, .inl (cy 0, 2, .inl (fun _ => 0)))])))))) H := hP.perm pm
    have hD : va_D A ([(r, .inr (9, [.int (rnS sd)])), (a, .inr (10, [.int (nI w), .int (nI hh), .int s2, .int s3, .int s4, v5, v6, .ref qH, v8, v9, v10])), (qH2, .inl (cy 4, N, .inr (.inr (.inr (.inr (fun i => some (rH i)))))))] ++ ((CWB cy u qo (stW st f b) qb B) ++ (rl N rH (fun k => .inl (cy 0, 2, .inl ((fun _ _ => (0 : Int32)) k))) ++ (Y0 ++ (G ++ (([(qH, refsE (cy 4) 1 (fun _ => qh0))] : va_W) ++ [(qh0, .inl (cy 0, 2, .inl (fun _ => 0)))])))))) := hD.perm pm
    refine W.widen (k := c0 + 10) (n := s0 + 20) (by omega) (by omega) ?_
    refine va_put (D := D) (ci := 10) (v := .ref qH2) (ty := (.array (.array .int))) (C := RX10) (T := TX10) (N := 11) hx hb hts inX10 tyX10 tyX10_ok nmX10 hown hK hP hD hS 1 rfl rfl 7 (by decide) f154 (fun _ h9 => h9) (by decide +kernel) rfl rfl rfl (Nat.le_of_ble_eq_true rfl) dL_randomShow_260 (fun H locs hP hD hS => ?_)
    have hP : va_P D vwCl ([(r, .inr (9, [.int (rnS sd)])), (a, .inr (10, [.int (nI w), .int (nI hh), .int s2, .int s3, .int s4, v5, v6, .ref qH2, v8, v9, v10])), (qH2, .inl (cy 4, N, .inr (.inr (.inr (.inr (fun i => some (rH i)))))))] ++ ((CWB cy u qo (stW st f b) qb B) ++ (rl N rH (fun k => .inl (cy 0, 2, .inl ((fun _ _ => (0 : Int32)) k))) ++ (Y0 ++ (G ++ (([(qH, refsE (cy 4) 1 (fun _ => qh0))] : va_W) ++ [(qh0, .inl (cy 0, 2, .inl (fun _ => 0)))])))))) H := hP
    have hD : va_D A ([(r, .inr (9, [.int (rnS sd)])), (a, .inr (10, [.int (nI w), .int (nI hh), .int s2, .int s3, .int s4, v5, v6, .ref qH2, v8, v9, v10])), (qH2, .inl (cy 4, N, .inr (.inr (.inr (.inr (fun i => some (rH i)))))))] ++ ((CWB cy u qo (stW st f b) qb B) ++ (rl N rH (fun k => .inl (cy 0, 2, .inl ((fun _ _ => (0 : Int32)) k))) ++ (Y0 ++ (G ++ (([(qH, refsE (cy 4) 1 (fun _ => qh0))] : va_W) ++ [(qh0, .inl (cy 0, 2, .inl (fun _ => 0)))])))))) := hD
    refine lv_iconst (v := 0) hx hb dL_randomShow_263 (by decide) ?_
    refine lv_istore (lv' := [(7, .int (0 : Int32)), (6, .int (nI N)), (4, .int (nI n)), (3, .ref a), (0, .ref qo), (1, .ref qb), (2, .ref r)]) hx hb dL_randomShow_264 hl (by decide) rfl (fun ls hl => ?_)
    have J : ∀ (k i : Nat) (f : Int32) (b B : Nat → Int32) (G : va_W) (H : Heap) (locs : List Loc) (ls : Array Slot), N - i < k → i ≤ N → TxR (tx0 ++ hlT w hh (rnS sd) i) f b B → va_P D vwCl ([(r, .inr (9, [.int (hlS i (rnS sd))])), (a, .inr (10, [.int (nI w), .int (nI hh), .int s2, .int s3, .int s4, v5, v6, .ref qH2, v8, v9, v10])), (qH2, .inl (cy 4, N, .inr (.inr (.inr (.inr (fun i => some (rH i)))))))] ++ ((CWB cy u qo (stW st f b) qb B) ++ (rl N rH (fun k => .inl (cy 0, 2, .inl ((hlEI w hh (rnS sd) i) k))) ++ (Y0 ++ G)))) H → va_D A ([(r, .inr (9, [.int (hlS i (rnS sd))])), (a, .inr (10, [.int (nI w), .int (nI hh), .int s2, .int s3, .int s4, v5, v6, .ref qH2, v8, v9, v10])), (qH2, .inl (cy 4, N, .inr (.inr (.inr (.inr (fun i => some (rH i)))))))] ++ ((CWB cy u qo (stW st f b) qb B) ++ (rl N rH (fun k => .inl (cy 0, 2, .inl ((hlEI w hh (rnS sd) i) k))) ++ (Y0 ++ G)))) → va_S A s.heap H locs → lv_has ls 10 [(7, .int (nI i)), (6, .int (nI N)), (4, .int (nI n)), (3, .ref a), (0, .ref qo), (1, .ref qb), (2, .ref r)] → W p l e ({ frames := 100, cells := 4000, slots := 300000, locals := 4000 } : Room) s m args below meth c H locs (c0 + 10) (s0 + 20) QQ (F0 m 266 ls []) := by
      intro k
      induction k with
      | zero => intro i f b B G H locs ls h1; omega
      | succ k ih =>
        intro i f b B G H locs ls h1 h2 T hP hD hS hl
        have hht := hlT_len w hh (rnS sd) i
        refine lv_iload hx hb dL_randomShow_266 (lv_at hl 0 rfl) ?_
        refine lv_iload hx hb dL_randomShow_268 (lv_at hl 1 rfl) ?_
        by_cases hi : i < N
        · skip
          refine lv_icmp_ge (tgt := 334) hx hb dL_randomShow_270 (by decide) (fun h2 => absurd h2 (nI_ge hi (by omega))) (fun _ => ?_)
          obtain ⟨si, esi⟩ : ∃ z : Int32, z = hlS i (rnS sd) := ⟨_, rfl⟩
          rw [← esi] at hP hD
          refine lv_aload_n hx hb dL_randomShow_273 rfl (lv_at hl 3 rfl) ?_
          refine va_get (D := D) (ci := 10) (v := .ref qH2) (C := RX10) (T := TX10) (N := 11) hx hb hts inX10 hown hK hP 1 rfl rfl 7 (by decide) f154 (fun _ h9 => h9) rfl dL_randomShow_274 ?_
          refine lv_iload hx hb dL_randomShow_277 (lv_at hl 0 rfl) ?_
          refine kg_alda hx hb hK hP 2 4 rfl rfl (vp_in_nI hi (by omega)) dL_randomShow_279 ?_
          rw [nI_clamp (by omega)]
          show W p l e ({ frames := 100, cells := 4000, slots := 300000, locals := 4000 } : Room) s m args below meth c H _ (c0 + 10) (s0 + 20) QQ (F0 m 280 ls [.ref (rH i)])
          refine lv_iconst (v := 0) hx hb dL_randomShow_280 (by decide) ?_
          refine lv_aload_n hx hb dL_randomShow_281 rfl (lv_at hl 6 rfl) ?_
          refine lv_aload_n hx hb dL_randomShow_282 rfl (lv_at hl 3 rfl) ?_
          refine va_get (D := D) (ci := 10) (v := .int (nI w)) (C := RX10) (T := TX10) (N := 11) hx hb hts inX10 hown hK hP 1 rfl rfl 0 (by decide) f113 (fun _ h9 => h9) rfl dL_randomShow_283 ?_
          refine kc_i (va_runV (As := [.int (nI w)]) (rest := [.int (0 : Int32), .ref (rH i)]) ⟨hx, hb, hml, hown, hts⟩ (c_X9_below r (w) H.size si (by omega) (by omega)) (cwV 1 hts gL_randomShow_X9_below rfl rfl rfl kd_X9_below ⟨Nat.le_of_ble_eq_true rfl, Nat.le_of_ble_eq_true rfl⟩) ⟨kP_blind (EN_ok D cy) D _ _ _, va_recv hK hP (ci := 9) (q0 := 0) rfl rfl, kStart (EN_ok D cy) hE hP hD hS hA [0] rfl rfl _⟩ rfl rfl hl.1 rfl (lv_room (Nat.le_of_ble_eq_true rfl)) dL_randomShow_286 ⟨by show (c0 + 10) + 0 ≤ 4000; omega, by show (s0 + 20) + 0 ≤ 300000; omega⟩) hP hD hS hA [0] rfl (Nat.le_refl _) (fun H locs hP hD hS => ?_)
          rw [wjn_1] at hP hD
          have hP : va_P D vwCl ([(r, .inr (9, [.int (rnS si)])), (a, .inr (10, [.int (nI w), .int (nI hh), .int s2, .int s3, .int s4, v5, v6, .ref qH2, v8, v9, v10])), (qH2, .inl (cy 4, N, .inr (.inr (.inr (.inr (fun i => some (rH i)))))))] ++ ((CWB cy u qo (stW st f b) qb B) ++ (rl N rH (fun k => .inl (cy 0, 2, .inl ((hlEI w hh (rnS sd) i) k))) ++ (Y0 ++ G)))) H := hP
          have hD : va_D A ([(r, .inr (9, [.int (rnS si)])), (a, .inr (10, [.int (nI w), .int (nI hh), .int s2, .int s3, .int s4, v5, v6, .ref qH2, v8, v9, v10])), (qH2, .inl (cy 4, N, .inr (.inr (.inr (.inr (fun i => some (rH i)))))))] ++ ((CWB cy u qo (stW st f b) qb B) ++ (rl N rH (fun k => .inl (cy 0, 2, .inl ((hlEI w hh (rnS sd) i) k))) ++ (Y0 ++ G)))) := hD
          refine va_iast hx hb hK hP hD hS _ 0 (rw_get (P := [(r, .inr (9, [.int (rnS si)])), (a, .inr (10, [.int (nI w), .int (nI hh), .int s2, .int s3, .int s4, v5, v6, .ref qH2, v8, v9, v10])), (qH2, .inl (cy 4, N, .inr (.inr (.inr (.inr (fun i => some (rH i)))))))]) (C := (CWB cy u qo (stW st f b) qb B)) (Y := (Y0 ++ G)) (n := N) (r := rH) (e := (fun k => .inl (cy 0, 2, .inl ((hlEI w hh (rnS sd) i) k)))) hi) rfl (vin_of (by decide)) dL_randomShow_289 (fun H locs hP hD hS => ?_)
          have e9 := rw_set (P := [(r, .inr (9, [.int (rnS si)])), (a, .inr (10, [.int (nI w), .int (nI hh), .int s2, .int s3, .int s4, v5, v6, .ref qH2, v8, v9, v10])), (qH2, .inl (cy 4, N, .inr (.inr (.inr (.inr (fun i => some (rH i)))))))]) (C := (CWB cy u qo (stW st f b) qb B)) (Y := (Y0 ++ G)) (n := N) (r := rH) (e := (fun k => .inl (cy 0, 2, .inl ((hlEI w hh (rnS sd) i) k)))) (x := .inl (cy 0, 2, .inl (upd ((hlEI w hh (rnS sd) i) i) (0 : Int32).toNatClampNeg (nI (rnV si % w))))) hi
          rw [hlRow_if] at e9
          have hP : va_P D vwCl ([(r, .inr (9, [.int (rnS si)])), (a, .inr (10, [.int (nI w), .int (nI hh), .int s2, .int s3, .int s4, v5, v6, .ref qH2, v8, v9, v10])), (qH2, .inl (cy 4, N, .inr (.inr (.inr (.inr (fun i => some (rH i)))))))] ++ ((CWB cy u qo (stW st f b) qb B) ++ (rl N rH (fun k => .inl (cy 0, 2, .inl ((fun k => if k = i then upd ((hlEI w hh (rnS sd) i) i) (0 : Int32).toNatClampNeg (nI (rnV si % w)) else (hlEI w hh (rnS sd) i) k) k))) ++ (Y0 ++ G)))) H := by rw [← e9]; exact hP
          have hD : va_D A ([(r, .inr (9, [.int (rnS si)])), (a, .inr (10, [.int (nI w), .int (nI hh), .int s2, .int s3, .int s4, v5, v6, .ref qH2, v8, v9, v10])), (qH2, .inl (cy 4, N, .inr (.inr (.inr (.inr (fun i => some (rH i)))))))] ++ ((CWB cy u qo (stW st f b) qb B) ++ (rl N rH (fun k => .inl (cy 0, 2, .inl ((fun k => if k = i then upd ((hlEI w hh (rnS sd) i) i) (0 : Int32).toNatClampNeg (nI (rnV si % w)) else (hlEI w hh (rnS sd) i) k) k))) ++ (Y0 ++ G)))) := by rw [← e9]; exact hD
          refine lv_aload_n hx hb dL_randomShow_290 rfl (lv_at hl 3 rfl) ?_
          refine va_get (D := D) (ci := 10) (v := .ref qH2) (C := RX10) (T := TX10) (N := 11) hx hb hts inX10 hown hK hP 1 rfl rfl 7 (by decide) f154 (fun _ h9 => h9) rfl dL_randomShow_291 ?_
          refine lv_iload hx hb dL_randomShow_294 (lv_at hl 0 rfl) ?_
          refine kg_alda hx hb hK hP 2 4 rfl rfl (vp_in_nI hi (by omega)) dL_randomShow_296 ?_
          rw [nI_clamp (by omega)]
          show W p l e ({ frames := 100, cells := 4000, slots := 300000, locals := 4000 } : Room) s m args below meth c H _ (c0 + 10) (s0 + 20) QQ (F0 m 297 ls [.ref (rH i)])
          refine lv_iconst (v := 1) hx hb dL_randomShow_297 (by decide) ?_
          refine lv_aload_n hx hb dL_randomShow_298 rfl (lv_at hl 6 rfl) ?_
          refine lv_aload_n hx hb dL_randomShow_299 rfl (lv_at hl 3 rfl) ?_
          refine va_get (D := D) (ci := 10) (v := .int (nI hh)) (C := RX10) (T := TX10) (N := 11) hx hb hts inX10 hown hK hP 1 rfl rfl 1 (by decide) f117 (fun _ h9 => h9) rfl dL_randomShow_300 ?_
          refine kc_i (va_runV (As := [.int (nI hh)]) (rest := [.int (1 : Int32), .ref (rH i)]) ⟨hx, hb, hml, hown, hts⟩ (c_X9_below r (hh) H.size (rnS si) (by omega) (by omega)) (cwV 1 hts gL_randomShow_X9_below rfl rfl rfl kd_X9_below ⟨Nat.le_of_ble_eq_true rfl, Nat.le_of_ble_eq_true rfl⟩) ⟨kP_blind (EN_ok D cy) D _ _ _, va_recv hK hP (ci := 9) (q0 := 0) rfl rfl, kStart (EN_ok D cy) hE hP hD hS hA [0] rfl rfl _⟩ rfl rfl hl.1 rfl (lv_room (Nat.le_of_ble_eq_true rfl)) dL_randomShow_303 ⟨by show (c0 + 10) + 0 ≤ 4000; omega, by show (s0 + 20) + 0 ≤ 300000; omega⟩) hP hD hS hA [0] rfl (Nat.le_refl _) (fun H locs hP hD hS => ?_)
          rw [wjn_1] at hP hD
          have hP : va_P D vwCl ([(r, .inr (9, [.int (rnS (rnS si))])), (a, .inr (10, [.int (nI w), .int (nI hh), .int s2, .int s3, .int s4, v5, v6, .ref qH2, v8, v9, v10])), (qH2, .inl (cy 4, N, .inr (.inr (.inr (.inr (fun i => some (rH i)))))))] ++ ((CWB cy u qo (stW st f b) qb B) ++ (rl N rH (fun k => .inl (cy 0, 2, .inl ((fun k => if k = i then upd ((hlEI w hh (rnS sd) i) i) (0 : Int32).toNatClampNeg (nI (rnV si % w)) else (hlEI w hh (rnS sd) i) k) k))) ++ (Y0 ++ G)))) H := hP
          have hD : va_D A ([(r, .inr (9, [.int (rnS (rnS si))])), (a, .inr (10, [.int (nI w), .int (nI hh), .int s2, .int s3, .int s4, v5, v6, .ref qH2, v8, v9, v10])), (qH2, .inl (cy 4, N, .inr (.inr (.inr (.inr (fun i => some (rH i)))))))] ++ ((CWB cy u qo (stW st f b) qb B) ++ (rl N rH (fun k => .inl (cy 0, 2, .inl ((fun k => if k = i then upd ((hlEI w hh (rnS sd) i) i) (0 : Int32).toNatClampNeg (nI (rnV si % w)) else (hlEI w hh (rnS sd) i) k) k))) ++ (Y0 ++ G)))) := hD
          refine va_iast hx hb hK hP hD hS _ 0 (rw_get (P := [(r, .inr (9, [.int (rnS (rnS si))])), (a, .inr (10, [.int (nI w), .int (nI hh), .int s2, .int s3, .int s4, v5, v6, .ref qH2, v8, v9, v10])), (qH2, .inl (cy 4, N, .inr (.inr (.inr (.inr (fun i => some (rH i)))))))]) (C := (CWB cy u qo (stW st f b) qb B)) (Y := (Y0 ++ G)) (n := N) (r := rH) (e := (fun k => .inl (cy 0, 2, .inl ((fun k => if k = i then upd ((hlEI w hh (rnS sd) i) i) (0 : Int32).toNatClampNeg (nI (rnV si % w)) else (hlEI w hh (rnS sd) i) k) k)))) hi) rfl (vin_of (by decide)) dL_randomShow_306 (fun H locs hP hD hS => ?_)
          have e9 := rw_set (P := [(r, .inr (9, [.int (rnS (rnS si))])), (a, .inr (10, [.int (nI w), .int (nI hh), .int s2, .int s3, .int s4, v5, v6, .ref qH2, v8, v9, v10])), (qH2, .inl (cy 4, N, .inr (.inr (.inr (.inr (fun i => some (rH i)))))))]) (C := (CWB cy u qo (stW st f b) qb B)) (Y := (Y0 ++ G)) (n := N) (r := rH) (e := (fun k => .inl (cy 0, 2, .inl ((fun k => if k = i then upd ((hlEI w hh (rnS sd) i) i) (0 : Int32).toNatClampNeg (nI (rnV si % w)) else (hlEI w hh (rnS sd) i) k) k)))) (x := .inl (cy 0, 2, .inl (upd ((fun k => if k = i then upd ((hlEI w hh (rnS sd) i) i) (0 : Int32).toNatClampNeg (nI (rnV si % w)) else (hlEI w hh (rnS sd) i) k) i) (1 : Int32).toNatClampNeg (nI (rnV (rnS si) % hh))))) hi
          rw [hlRow_if] at e9
          have hP : va_P D vwCl ([(r, .inr (9, [.int (rnS (rnS si))])), (a, .inr (10, [.int (nI w), .int (nI hh), .int s2, .int s3, .int s4, v5, v6, .ref qH2, v8, v9, v10])), (qH2, .inl (cy 4, N, .inr (.inr (.inr (.inr (fun i => some (rH i)))))))] ++ ((CWB cy u qo (stW st f b) qb B) ++ (rl N rH (fun k => .inl (cy 0, 2, .inl ((fun k => if k = i then upd ((fun k => if k = i then upd ((hlEI w hh (rnS sd) i) i) (0 : Int32).toNatClampNeg (nI (rnV si % w)) else (hlEI w hh (rnS sd) i) k) i) (1 : Int32).toNatClampNeg (nI (rnV (rnS si) % hh)) else (fun k => if k = i then upd ((hlEI w hh (rnS sd) i) i) (0 : Int32).toNatClampNeg (nI (rnV si % w)) else (hlEI w hh (rnS sd) i) k) k) k))) ++ (Y0 ++ G)))) H := by rw [← e9]; exact hP
          have hD : va_D A ([(r, .inr (9, [.int (rnS (rnS si))])), (a, .inr (10, [.int (nI w), .int (nI hh), .int s2, .int s3, .int s4, v5, v6, .ref qH2, v8, v9, v10])), (qH2, .inl (cy 4, N, .inr (.inr (.inr (.inr (fun i => some (rH i)))))))] ++ ((CWB cy u qo (stW st f b) qb B) ++ (rl N rH (fun k => .inl (cy 0, 2, .inl ((fun k => if k = i then upd ((fun k => if k = i then upd ((hlEI w hh (rnS sd) i) i) (0 : Int32).toNatClampNeg (nI (rnV si % w)) else (hlEI w hh (rnS sd) i) k) i) (1 : Int32).toNatClampNeg (nI (rnV (rnS si) % hh)) else (fun k => if k = i then upd ((hlEI w hh (rnS sd) i) i) (0 : Int32).toNatClampNeg (nI (rnV si % w)) else (hlEI w hh (rnS sd) i) k) k) k))) ++ (Y0 ++ G)))) := by rw [← e9]; exact hD
          have eE : (fun k => if k = i then upd ((fun k => if k = i then upd ((hlEI w hh (rnS sd) i) i) (0 : Int32).toNatClampNeg (nI (rnV si % w)) else (hlEI w hh (rnS sd) i) k) i) (1 : Int32).toNatClampNeg (nI (rnV (rnS si) % hh)) else (fun k => if k = i then upd ((hlEI w hh (rnS sd) i) i) (0 : Int32).toNatClampNeg (nI (rnV si % w)) else (hlEI w hh (rnS sd) i) k) k) = hlEI w hh (rnS sd) (i + 1) := by rw [esi]; exact hlEI_step w hh (rnS sd) i
          rw [eE] at hP hD
          have hP : va_P D vwCl ([(r, .inr (9, [.int (rnS (rnS si))])), (a, .inr (10, [.int (nI w), .int (nI hh), .int s2, .int s3, .int s4, v5, v6, .ref qH2, v8, v9, v10])), (qH2, .inl (cy 4, N, .inr (.inr (.inr (.inr (fun i => some (rH i)))))))] ++ ((CWB cy u qo (stW st f b) qb B) ++ (rl N rH (fun k => .inl (cy 0, 2, .inl ((hlEI w hh (rnS sd) (i + 1)) k))) ++ (Y0 ++ G)))) H := hP
          have hD : va_D A ([(r, .inr (9, [.int (rnS (rnS si))])), (a, .inr (10, [.int (nI w), .int (nI hh), .int s2, .int s3, .int s4, v5, v6, .ref qH2, v8, v9, v10])), (qH2, .inl (cy 4, N, .inr (.inr (.inr (.inr (fun i => some (rH i)))))))] ++ ((CWB cy u qo (stW st f b) qb B) ++ (rl N rH (fun k => .inl (cy 0, 2, .inl ((hlEI w hh (rnS sd) (i + 1)) k))) ++ (Y0 ++ G)))) := hD
          refine lv_aload_n hx hb dL_randomShow_307 rfl (lv_at hl 4 rfl) ?_
          refine lv_aload_n hx hb dL_randomShow_308 rfl (lv_at hl 5 rfl) ?_
          obtain ⟨a3, hRa3, hTa3⟩ := hL.2.2.2.2.2.2.2 ("PeepBoxLaw", 157, "hole", [104, 111, 108, 101]) (by decide +kernel)
          refine va_ldcS hx hb hown hRa3 dL_randomShow_309 ?_
          refine lv_aload_n hx hb dL_randomShow_311 rfl (lv_at hl 3 rfl) ?_
          refine va_get (D := D) (ci := 10) (v := .ref qH2) (C := RX10) (T := TX10) (N := 11) hx hb hts inX10 hown hK hP 1 rfl rfl 7 (by decide) f154 (fun _ h9 => h9) rfl dL_randomShow_312 ?_
          refine lv_iload hx hb dL_randomShow_315 (lv_at hl 0 rfl) ?_
          refine kg_alda hx hb hK hP 2 4 rfl rfl (vp_in_nI hi (by omega)) dL_randomShow_317 ?_
          rw [nI_clamp (by omega)]
          show W p l e ({ frames := 100, cells := 4000, slots := 300000, locals := 4000 } : Room) s m args below meth c H _ (c0 + 10) (s0 + 20) QQ (F0 m 318 ls [.ref (rH i), .ref a3, .ref qb, .ref qo])
          have pm : ∀ C : va_W, _ := fun C => pm_pool (P := [(r, .inr (9, [.int (rnS (rnS si))])), (a, .inr (10, [.int (nI w), .int (nI hh), .int s2, .int s3, .int s4, v5, v6, .ref qH2, v8, v9, v10])), (qH2, .inl (cy 4, N, .inr (.inr (.inr (.inr (fun i => some (rH i)))))))]) (C := C) (W := (Y0 ++ G)) (n := N) (r := rH) (e := (fun k => .inl (cy 0, 2, .inl ((hlEI w hh (rnS sd) (i + 1)) k)))) hi
          have eR : (hlEI w hh (rnS sd) (i + 1)) i = (hlF (hlX w (rnS sd) i) (hlY hh (rnS sd) i)) := if_pos (Nat.lt_succ_self i)
          have hP : va_P D vwCl ([(r, .inr (9, [.int (rnS (rnS si))])), (a, .inr (10, [.int (nI w), .int (nI hh), .int s2, .int s3, .int s4, v5, v6, .ref qH2, v8, v9, v10])), (qH2, .inl (cy 4, N, .inr (.inr (.inr (.inr (fun i => some (rH i)))))))] ++ (((CWB cy u qo (stW st f b) qb B) ++ [(rH i, .inl (cy 0, 2, .inl (hlF (hlX w (rnS sd) i) (hlY hh (rnS sd) i))))]) ++ (rl i rH (fun k => .inl (cy 0, 2, .inl ((hlEI w hh (rnS sd) (i + 1)) k))) ++ (rl (N - i - 1) (fun j => rH (i + 1 + j)) (fun j => (fun k => .inl (cy 0, 2, .inl ((hlEI w hh (rnS sd) (i + 1)) k))) (i + 1 + j)) ++ (Y0 ++ G))))) H := by rw [← eR]; exact hP.perm (pm _)
          have hD : va_D A ([(r, .inr (9, [.int (rnS (rnS si))])), (a, .inr (10, [.int (nI w), .int (nI hh), .int s2, .int s3, .int s4, v5, v6, .ref qH2, v8, v9, v10])), (qH2, .inl (cy 4, N, .inr (.inr (.inr (.inr (fun i => some (rH i)))))))] ++ (((CWB cy u qo (stW st f b) qb B) ++ [(rH i, .inl (cy 0, 2, .inl (hlF (hlX w (rnS sd) i) (hlY hh (rnS sd) i))))]) ++ (rl i rH (fun k => .inl (cy 0, 2, .inl ((hlEI w hh (rnS sd) (i + 1)) k))) ++ (rl (N - i - 1) (fun j => rH (i + 1 + j)) (fun j => (fun k => .inl (cy 0, 2, .inl ((hlEI w hh (rnS sd) (i + 1)) k))) (i + 1 + j)) ++ (Y0 ++ G))))) := by rw [← eR]; exact hD.perm (pm _)
          rw [CWN_eq] at hP hD
          obtain ⟨f1, b1, B1, T1, M1⟩ := k_L_writeAll (l := l) (D := D) (cy := cy) (s := ([104, 111, 108, 101] : List Int32)) (p3 := (hlF (hlX w (rnS sd) i) (hlY hh (rnS sd) i))) u qo qb H.size (stW st f b) a3 (rH i) 2 (pr2 (hlX w (rnS sd) i) (hlY hh (rnS sd) i)) (ascS_lit (by decide)) (fun j hj => hlF_at (by have := Nat.mod_lt (rnV (hlS i (rnS sd))) (show 0 < w by omega); unfold hlX; omega) (by have := Nat.mod_lt (rnV (rnS (hlS i (rnS sd)))) (show 0 < hh by omega); unfold hlY; omega) hj) (by decide) (by rw [List.length_append]; show _ + _ + 4 + 5 * 2 ≤ 780; omega) T
          refine kq_v (va_runS (As := [.ref qo, .ref qb, .ref a3, .ref (rH i)]) (rest := []) ⟨hx, hb, hml, hown, hts⟩ M1 (va_cwS 4 hts gL_randomShow_L_writeAll rfl rfl rfl kd_L_writeAll ⟨Nat.le_of_ble_eq_true rfl, Nat.le_of_ble_eq_true rfl⟩) ⟨kP_blind (ESL_ok D cy ([104, 111, 108, 101] : List Int32) a3) D _ _ _, kqStartL hEL hP hD hS hA (kT_qo hTa3 hD hS hA) _⟩ rfl rfl hl.1 rfl (lv_room (Nat.le_of_ble_eq_true rfl)) dL_randomShow_318 ⟨by show (c0 + 10) + 0 ≤ 4000; omega, by show (s0 + 20) + 0 ≤ 300000; omega⟩) hP hD hS hA (fun H locs hP hD hS => ?_)
          rw [stW_stW] at hP hD
          rw [← CWN_eq, ← eR] at hP hD
          have hP : va_P D vwCl ([(r, .inr (9, [.int (rnS (rnS si))])), (a, .inr (10, [.int (nI w), .int (nI hh), .int s2, .int s3, .int s4, v5, v6, .ref qH2, v8, v9, v10])), (qH2, .inl (cy 4, N, .inr (.inr (.inr (.inr (fun i => some (rH i)))))))] ++ ((CWB cy u qo (stW st f1 b1) qb B1) ++ (rl N rH (fun k => .inl (cy 0, 2, .inl ((hlEI w hh (rnS sd) (i + 1)) k))) ++ (Y0 ++ G)))) H := hP.perm (pm _).symm
          have hD : va_D A ([(r, .inr (9, [.int (rnS (rnS si))])), (a, .inr (10, [.int (nI w), .int (nI hh), .int s2, .int s3, .int s4, v5, v6, .ref qH2, v8, v9, v10])), (qH2, .inl (cy 4, N, .inr (.inr (.inr (.inr (fun i => some (rH i)))))))] ++ ((CWB cy u qo (stW st f1 b1) qb B1) ++ (rl N rH (fun k => .inl (cy 0, 2, .inl ((hlEI w hh (rnS sd) (i + 1)) k))) ++ (Y0 ++ G)))) := hD.perm (pm _).symm
          refine lv_aload_n hx hb dL_randomShow_321 rfl (lv_at hl 4 rfl) ?_
          refine lv_aload_n hx hb dL_randomShow_322 rfl (lv_at hl 5 rfl) ?_
          obtain ⟨a4, hRa4, hTa4⟩ := hL.2.2.2.2.2.2.2 ("PeepBoxLaw", 126, ";", [59]) (by decide +kernel)
          refine va_ldcS hx hb hown hRa4 dL_randomShow_323 ?_
          obtain ⟨f2, b2, B2, T2, M2⟩ := k_L_write (l := l) (D := D) (cy := cy) (s := ([59] : List Int32)) u qo qb H.size (stW st f1 b1) a4 (ascS_lit (by decide)) (by have := numT_len (pr2 (hlX w (rnS sd) i) (hlY hh (rnS sd) i)) 2; rw [List.length_append, List.length_append, List.length_append]; show _ + _ + 4 + _ + 1 ≤ 780; omega) T1
          refine kq_v (va_runS (As := [.ref qo, .ref qb, .ref a4]) (rest := []) ⟨hx, hb, hml, hown, hts⟩ M2 (va_cwS 3 hts gL_randomShow_L_write rfl rfl rfl kd_L_write ⟨Nat.le_of_ble_eq_true rfl, Nat.le_of_ble_eq_true rfl⟩) ⟨kP_blind (ES_ok D cy ([59] : List Int32) a4) D _ _ _, kqStartS hE hP hD hS hA (kT_qo hTa4 hD hS hA) _⟩ rfl rfl hl.1 rfl (lv_room (Nat.le_of_ble_eq_true rfl)) dL_randomShow_325 ⟨by show (c0 + 10) + 0 ≤ 4000; omega, by show (s0 + 20) + 0 ≤ 300000; omega⟩) hP hD hS hA (fun H locs hP hD hS => ?_)
          rw [stW_stW] at hP hD
          refine lv_iinc (v := (nI (i + 1))) (lv' := [(7, .int (nI (i + 1))), (6, .int (nI N)), (4, .int (nI n)), (3, .ref a), (0, .ref qo), (1, .ref qb), (2, .ref r)]) hx hb dL_randomShow_328 hl (k := 0) rfl (by rw [nI_succ]; rfl) (by decide) rfl (fun ls hl => ?_)
          refine lv_goto (tgt := 266) hx hb dL_randomShow_331 (by decide) ?_
          have eT : tx0 ++ hlT w hh (rnS sd) i ++ [104, 111, 108, 101] ++ numT (pr2 (hlX w (rnS sd) i) (hlY hh (rnS sd) i)) 2 ++ [59] = (tx0 ++ hlT w hh (rnS sd) (i + 1)) := by simp only [hlT, List.append_assoc]
          rw [eT] at T2
          have eS : rnS (rnS si) = hlS (i + 1) (rnS sd) := by rw [esi]; rfl
          rw [eS] at hP hD
          exact ih (i + 1) _ _ _ G H _ ls (by omega) (by omega) T2 hP hD hS (lv_sub hl [0, 1, 2, 3, 4, 5, 6] rfl)
        · skip
          have ei : i = N := by omega
          rw [ei] at T hP hD
          refine lv_icmp_ge (tgt := 334) hx hb dL_randomShow_270 (by decide) (fun _ => ?_) (fun h2 => absurd (nI_le (a := N) (b := i) (by omega) (by omega)) h2)
          have e9 : rl (hlN N) rH (fun k => .inl (cy 0, 2, .inl (hlE w hh (rnS sd) N k))) = rl N rH (fun k => .inl (cy 0, 2, .inl (hlEI w hh (rnS sd) N k))) := by rw [show hlN N = N from if_neg hN]; exact rl_congr (fun k hk => ⟨rfl, by unfold hlE hlEI; rw [if_neg hN, if_pos hk]⟩)
          exact K N qH2 rH _ _ _ G H _ ls eN T (by rw [e9, show hlN N = N from if_neg hN]; exact hP) (by rw [e9, show hlN N = N from if_neg hN]; exact hD) hS (lv_sub hl [2, 3, 4, 5, 6] rfl)
    exact J (N + 1) 0 f b B _ H _ ls (by omega) (by omega) (by rw [hlT, List.append_nil]; exact T) hP hD hS (lv_sub hl [0, 1, 2, 3, 4, 5, 6] rfl)
