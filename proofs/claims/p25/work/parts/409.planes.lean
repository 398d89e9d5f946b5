/-! randomShow: the planes (rs2.py) -/
theorem char_asc2 {x : Int32} (h : asc x) : (x.toUInt32 % 65536).toInt32 = x := by
  obtain ⟨c, hc, rfl⟩ := asc_nI h
  exact (sb_byte c (by omega)).2.1
/-- a place of a pool in the middle -/
theorem rw_get {P C Y : va_W} {n k : Nat} {r : Nat → Nat} {e : Nat → va_E} (h : k < n) : (P ++ (C ++ (rl n r e ++ Y)))[(P ++ C).length + k]? = some (r k, e k) := by
  rw [← List.append_assoc]; exact rl_getM h
theorem rw_set {P C Y : va_W} {n k : Nat} {r : Nat → Nat} {e : Nat → va_E} {x : va_E} (h : k < n) : (P ++ (C ++ (rl n r e ++ Y))).set ((P ++ C).length + k) (r k, x) = P ++ (C ++ (rl n r (fun i => if i = k then x else e i) ++ Y)) := by
  rw [← List.append_assoc, rl_setM h, List.append_assoc]
set_option maxHeartbeats 8000000 in
set_option maxRecDepth 100000 in
theorem rs_planes {p : Program} {l : Launch} {e : Env} {s : State} {m : MethodId} {args : Array Value} {below : List Frame} {meth : Method} {c : Code} {D : va_G} {cy : Nat → ClassId} {ad : Nat → Nat} {A : Nat → Prop} {QQ : State → Prop} {st : St} {u : Nat → Nat} {qo qb r a : Nat} {qP n w hh told : Nat} {sd0 s2 s3 s4 : Int32} {v6 v7 v8 v9 v10 : Value} {rP : Nat → Nat} {Y0 : va_W} {tx0 : List Int32} {c0 s0 : Nat} (C : RC p s m c args D cy ad A) (hw : 1 ≤ w ∧ w ≤ 6) (hh4 : hh ≤ 4) (hn : n ≤ 4) (htold : told ≤ n) (htx0 : tx0.length ≤ 40) (hc0 : c0 ≤ 1000) (hs0 : s0 ≤ 100000) {f : Int32} {b B : Nat → Int32} {gr : Nat → Nat → Option Nat} {G : va_W} {H : Heap} {locs : List Loc} {ls : Array Slot} (T : TxR tx0 f b B) (hrows : rsG cy n w hh sd0 0 0 gr G) (hP : va_P D vwCl ([(r, .inr (9, [.int sd0])), (a, .inr (10, [.int (nI w), .int (nI hh), .int s2, .int s3, .int s4, .ref qP, v6, v7, v8, v9, v10])), (qP, .inl (cy 7, n, .inr (.inr (.inr (.inr (fun i => some (rP i)))))))] ++ ((CWB cy u qo (stW st f b) qb B) ++ (rl n rP (fun q => rowE cy hh (gr q)) ++ (Y0 ++ G)))) H) (hD : va_D A ([(r, .inr (9, [.int sd0])), (a, .inr (10, [.int (nI w), .int (nI hh), .int s2, .int s3, .int s4, .ref qP, v6, v7, v8, v9, v10])), (qP, .inl (cy 7, n, .inr (.inr (.inr (.inr (fun i => some (rP i)))))))] ++ ((CWB cy u qo (stW st f b) qb B) ++ (rl n rP (fun q => rowE cy hh (gr q)) ++ (Y0 ++ G))))) (hS : va_S A s.heap H locs) (hl : lv_has ls 10 [(5, .int (nI told)), (4, .int (nI n)), (3, .ref a), (0, .ref qo), (1, .ref qb), (2, .ref r)]) (K : ∀ (f : Int32) (b B : Nat → Int32) (gr : Nat → Nat → Option Nat) (G : va_W) (H : Heap) (locs : List Loc) (ls : Array Slot), TxR (tx0 ++ plT n w hh sd0 told) f b B → rsG cy n w hh sd0 told 0 gr G → va_P D vwCl ([(r, .inr (9, [.int (rsP n w hh told sd0)])), (a, .inr (10, [.int (nI w), .int (nI hh), .int s2, .int s3, .int s4, .ref qP, v6, v7, v8, v9, v10])), (qP, .inl (cy 7, n, .inr (.inr (.inr (.inr (fun i => some (rP i)))))))] ++ ((CWB cy u qo (stW st f b) qb B) ++ (rl n rP (fun q => rowE cy hh (gr q)) ++ (Y0 ++ G)))) H → va_D A ([(r, .inr (9, [.int (rsP n w hh told sd0)])), (a, .inr (10, [.int (nI w), .int (nI hh), .int s2, .int s3, .int s4, .ref qP, v6, v7, v8, v9, v10])), (qP, .inl (cy 7, n, .inr (.inr (.inr (.inr (fun i => some (rP i)))))))] ++ ((CWB cy u qo (stW st f b) qb B) ++ (rl n rP (fun q => rowE cy hh (gr q)) ++ (Y0 ++ G)))) → va_S A s.heap H locs → lv_has ls 10 [(4, .int (nI n)), (3, .ref a), (0, .ref qo), (1, .ref qb), (2, .ref r)] → W p l e ({ frames := 100, cells := 4000, slots := 300000, locals := 4000 } : Room) s m args below meth c H locs (c0 + 610) (s0 + 60100) QQ (F0 m 240 ls [])) : W p l e ({ frames := 100, cells := 4000, slots := 300000, locals := 4000 } : Room) s m args below meth c H locs c0 s0 QQ (F0 m 93 ls []) := by
  obtain ⟨hx, hb, hml, hown, hts, hEZ, hA⟩ := C
  obtain ⟨⟨hEL, hDig, hVar, hNest⟩, hEW, hEH⟩ := id hEZ
  have hE := hEL.1
  have hL := hEL.2
  have hK := hE.1
  have hW1 := hEW.2.1
  have hW2 := hEW.2.2
  have inJ0 : ∀ w ∈ wsJ00, w ∈ wsL_randomShow := by decide +kernel
  have f117 := hts (.fieldLink RL 117 "PeepBoxLaw$Show" "height" "I") (by decide +kernel)
  have inX10 : ∀ w ∈ wsX100, w ∈ wsL_randomShow := by decide +kernel
  have f113 := hts (.fieldLink RL 113 "PeepBoxLaw$Show" "width" "I") (by decide +kernel)
  have k135 := hts (.classLink RL 135 RJ4) (by decide +kernel)
  have nJ4 := hts (.instantiable RJ4 4) (by decide +kernel)
  have iRJ4 := hts (.initialized RJ4) (by decide +kernel)
  have inJ4 : ∀ w ∈ wsJ40, w ∈ wsL_randomShow := by decide +kernel
  have l137 := hts (.methodLink RL 137 yJ4_init_da8c8) (by decide +kernel)
  have imJ4_init_da8c8 := hts (.instanceMethod yJ4_init_da8c8) (by decide +kernel)
  have f148 := hts (.fieldLink RL 148 "PeepBoxLaw$Show" "planes" "[[Ljava/lang/String;") (by decide +kernel)
  refine lv_iconst (v := 0) hx hb dL_randomShow_93 (by decide) ?_
  refine lv_istore (lv' := [(6, .int (0 : Int32)), (5, .int (nI told)), (4, .int (nI n)), (3, .ref a), (0, .ref qo), (1, .ref qb), (2, .ref r)]) hx hb dL_randomShow_94 hl (by decide) rfl (fun ls hl => ?_)
  have J : ∀ (k p9 : Nat) (f : Int32) (b B : Nat → Int32) (gr : Nat → Nat → Option Nat) (G : va_W) (H : Heap) (locs : List Loc) (ls : Array Slot), told - p9 < k → p9 ≤ told → TxR (tx0 ++ plT n w hh sd0 p9) f b B → rsG cy n w hh sd0 p9 0 gr G → va_P D vwCl ([(r, .inr (9, [.int (rsP n w hh p9 sd0)])), (a, .inr (10, [.int (nI w), .int (nI hh), .int s2, .int s3, .int s4, .ref qP, v6, v7, v8, v9, v10])), (qP, .inl (cy 7, n, .inr (.inr (.inr (.inr (fun i => some (rP i)))))))] ++ ((CWB cy u qo (stW st f b) qb B) ++ (rl n rP (fun q => rowE cy hh (gr q)) ++ (Y0 ++ G)))) H → va_D A ([(r, .inr (9, [.int (rsP n w hh p9 sd0)])), (a, .inr (10, [.int (nI w), .int (nI hh), .int s2, .int s3, .int s4, .ref qP, v6, v7, v8, v9, v10])), (qP, .inl (cy 7, n, .inr (.inr (.inr (.inr (fun i => some (rP i)))))))] ++ ((CWB cy u qo (stW st f b) qb B) ++ (rl n rP (fun q => rowE cy hh (gr q)) ++ (Y0 ++ G)))) → va_S A s.heap H locs → lv_has ls 10 [(6, .int (nI p9)), (5, .int (nI told)), (4, .int (nI n)), (3, .ref a), (0, .ref qo), (1, .ref qb), (2, .ref r)] → W p l e ({ frames := 100, cells := 4000, slots := 300000, locals := 4000 } : Room) s m args below meth c H locs (c0 + 150 * p9) (s0 + 15000 * p9) QQ (F0 m 96 ls []) := by
    intro k
    induction k with
    | zero => intro p9 f b B gr G H locs ls h1; omega
    | succ k ih =>
      intro p9 f b B gr G H locs ls h1 h2 T hrows hP hD hS hl
      have hpl := plT_len (n := n) hw.2 hh4 sd0 p9
      refine lv_iload hx hb dL_randomShow_96 (lv_at hl 0 rfl) ?_
      refine lv_iload hx hb dL_randomShow_98 (lv_at hl 1 rfl) ?_
      by_cases hp : p9 < told
      · skip
        refine lv_icmp_ge (tgt := 240) hx hb dL_randomShow_100 (by decide) (fun h1 => absurd h1 (nI_ge hp (by omega))) (fun _ => ?_)
        refine lv_aload_n hx hb dL_randomShow_103 rfl (lv_at hl 4 rfl) ?_
        refine lv_aload_n hx hb dL_randomShow_104 rfl (lv_at hl 5 rfl) ?_
        obtain ⟨a2, hRa2, hTa2⟩ := hL.2.2.2.2.2.2.2 ("PeepBoxLaw", 132, "plane", [112, 108, 97, 110, 101]) (by decide +kernel)
        refine va_ldcS hx hb hown hRa2 dL_randomShow_105 ?_
        obtain ⟨f1, b1, B1, T1, M1⟩ := k_L_write (l := l) (D := D) (cy := cy) (s := ([112, 108, 97, 110, 101] : List Int32)) u qo qb H.size (stW st f b) a2 (ascS_lit (by decide)) (by rw [List.length_append]; show _ + _ + 5 ≤ 780; omega) T
        refine kq_v (va_runS (As := [.ref qo, .ref qb, .ref a2]) (rest := []) ⟨hx, hb, hml, hown, hts⟩ M1 (va_cwS 3 hts gL_randomShow_L_write rfl rfl rfl kd_L_write ⟨Nat.le_of_ble_eq_true rfl, Nat.le_of_ble_eq_true rfl⟩) ⟨kP_blind (ES_ok D cy ([112, 108, 97, 110, 101] : List Int32) a2) D _ _ _, kqStartS hE hP hD hS hA (kT_qo hTa2 hD hS hA) _⟩ rfl rfl hl.1 rfl (lv_room (Nat.le_of_ble_eq_true rfl)) dL_randomShow_107 ⟨by show (c0 + 150 * p9) + 0 ≤ 4000; omega, by show (s0 + 15000 * p9) + 0 ≤ 300000; omega⟩) hP hD hS hA (fun H locs hP hD hS => ?_)
        rw [stW_stW] at hP hD
        refine lv_iconst (v := 0) hx hb dL_randomShow_110 (by decide) ?_
        refine lv_istore (lv' := [(7, .int (0 : Int32)), (6, .int (nI p9)), (5, .int (nI told)), (4, .int (nI n)), (3, .ref a), (0, .ref qo), (1, .ref qb), (2, .ref r)]) hx hb dL_randomShow_111 hl (by decide) rfl (fun ls hl => ?_)
        obtain ⟨op, eop⟩ : ∃ op : Bool, op = rsO n p9 := ⟨_, rfl⟩
        have J1 : ∀ (k y : Nat) (f : Int32) (b B : Nat → Int32) (gr : Nat → Nat → Option Nat) (G : va_W) (H : Heap) (locs : List Loc) (ls : Array Slot), hh - y < k → y ≤ hh → TxR ((tx0 ++ plT n w hh sd0 p9) ++ [112, 108, 97, 110, 101] ++ rwT n w hh sd0 p9 y) f b B → rsG cy n w hh sd0 p9 y gr G → va_P D vwCl ([(r, .inr (9, [.int (rsR op w y (rsP n w hh p9 sd0))])), (a, .inr (10, [.int (nI w), .int (nI hh), .int s2, .int s3, .int s4, .ref qP, v6, v7, v8, v9, v10])), (qP, .inl (cy 7, n, .inr (.inr (.inr (.inr (fun i => some (rP i)))))))] ++ ((CWB cy u qo (stW st f b) qb B) ++ (rl n rP (fun q => rowE cy hh (gr q)) ++ (Y0 ++ G)))) H → va_D A ([(r, .inr (9, [.int (rsR op w y (rsP n w hh p9 sd0))])), (a, .inr (10, [.int (nI w), .int (nI hh), .int s2, .int s3, .int s4, .ref qP, v6, v7, v8, v9, v10])), (qP, .inl (cy 7, n, .inr (.inr (.inr (.inr (fun i => some (rP i)))))))] ++ ((CWB cy u qo (stW st f b) qb B) ++ (rl n rP (fun q => rowE cy hh (gr q)) ++ (Y0 ++ G)))) → va_S A s.heap H locs → lv_has ls 10 [(7, .int (nI y)), (6, .int (nI p9)), (5, .int (nI told)), (4, .int (nI n)), (3, .ref a), (0, .ref qo), (1, .ref qb), (2, .ref r)] → W p l e ({ frames := 100, cells := 4000, slots := 300000, locals := 4000 } : Room) s m args below meth c H locs (c0 + 150 * p9 + 37 * y) (s0 + 15000 * p9 + 3750 * y) QQ (F0 m 113 ls []) := by
          intro k
          induction k with
          | zero => intro y f b B gr G H locs ls h1; omega
          | succ k ih2 =>
            intro y f b B gr G H locs ls h3 h4 T hrows hP hD hS hl
            have hrw := rwT_len n w hh sd0 p9 y
            have hwy : (w + 1) * y ≤ 7 * 4 := Nat.mul_le_mul (by omega) (by omega)
            refine lv_iload hx hb dL_randomShow_113 (lv_at hl 0 rfl) ?_
            refine lv_aload_n hx hb dL_randomShow_115 rfl (lv_at hl 4 rfl) ?_
            refine va_get (D := D) (ci := 10) (v := .int (nI hh)) (C := RX10) (T := TX10) (N := 11) hx hb hts inX10 hown hK hP 1 rfl rfl 1 (by decide) f117 (fun _ h9 => h9) rfl dL_randomShow_116 ?_
            by_cases hy : y < hh
            · skip
              refine lv_icmp_ge (tgt := 227) hx hb dL_randomShow_119 (by decide) (fun h3 => absurd h3 (nI_ge hy (by omega))) (fun _ => ?_)
              obtain ⟨a4, hRa4, hTa4⟩ := hL.2.2.2.2.2.2.2 ("PeepBoxLaw", 133, "", []) (by decide +kernel)
              refine va_ldcS hx hb hown hRa4 dL_randomShow_122 ?_
              refine lv_astore (lv' := [(8, .ref a4), (7, .int (nI y)), (6, .int (nI p9)), (5, .int (nI told)), (4, .int (nI n)), (3, .ref a), (0, .ref qo), (1, .ref qb), (2, .ref r)]) hx hb dL_randomShow_124 hl (by decide) rfl (fun ls hl => ?_)
              refine lv_iconst (v := 0) hx hb dL_randomShow_126 (by decide) ?_
              refine lv_istore (lv' := [(9, .int (0 : Int32)), (8, .ref a4), (7, .int (nI y)), (6, .int (nI p9)), (5, .int (nI told)), (4, .int (nI n)), (3, .ref a), (0, .ref qo), (1, .ref qb), (2, .ref r)]) hx hb dL_randomShow_127 hl (by decide) rfl (fun ls hl => ?_)
              have J2 : ∀ (k x ln : Nat) (G : va_W) (H : Heap) (locs : List Loc) (ls : Array Slot), w - x < k → x ≤ w → rsG cy n w hh sd0 p9 y gr G → strN cy A s (rsL op x (rsR op w y (rsP n w hh p9 sd0))).1 ln G → (0 < x → strM cy (rsL op x (rsR op w y (rsP n w hh p9 sd0))).1 ln G) → va_P D vwCl ([(r, .inr (9, [.int (rsL op x (rsR op w y (rsP n w hh p9 sd0))).2])), (a, .inr (10, [.int (nI w), .int (nI hh), .int s2, .int s3, .int s4, .ref qP, v6, v7, v8, v9, v10])), (qP, .inl (cy 7, n, .inr (.inr (.inr (.inr (fun i => some (rP i)))))))] ++ ((CWB cy u qo (stW st f b) qb B) ++ (rl n rP (fun q => rowE cy hh (gr q)) ++ (Y0 ++ G)))) H → va_D A ([(r, .inr (9, [.int (rsL op x (rsR op w y (rsP n w hh p9 sd0))).2])), (a, .inr (10, [.int (nI w), .int (nI hh), .int s2, .int s3, .int s4, .ref qP, v6, v7, v8, v9, v10])), (qP, .inl (cy 7, n, .inr (.inr (.inr (.inr (fun i => some (rP i)))))))] ++ ((CWB cy u qo (stW st f b) qb B) ++ (rl n rP (fun q => rowE cy hh (gr q)) ++ (Y0 ++ G)))) → va_S A s.heap H locs → lv_has ls 10 [(9, .int (nI x)), (8, .ref ln), (7, .int (nI y)), (6, .int (nI p9)), (5, .int (nI told)), (4, .int (nI n)), (3, .ref a), (0, .ref qo), (1, .ref qb), (2, .ref r)] → W p l e ({ frames := 100, cells := 4000, slots := 300000, locals := 4000 } : Room) s m args below meth c H locs (c0 + 150 * p9 + 37 * y + 6 * x) (s0 + 15000 * p9 + 3750 * y + 624 * x) QQ (F0 m 129 ls []) := by
                intro k
                induction k with
                | zero => intro x ln G H locs ls h1; omega
                | succ k ih3 =>
                  intro x ln G H locs ls h5 h6 hrows hln hlm hP hD hS hl
                  refine lv_iload hx hb dL_randomShow_129 (lv_at hl 0 rfl) ?_
                  refine lv_aload_n hx hb dL_randomShow_131 rfl (lv_at hl 6 rfl) ?_
                  refine va_get (D := D) (ci := 10) (v := .int (nI w)) (C := RX10) (T := TX10) (N := 11) hx hb hts inX10 hown hK hP 1 rfl rfl 0 (by decide) f113 (fun _ h9 => h9) rfl dL_randomShow_132 ?_
                  by_cases hxw : x < w
                  · skip
                    refine lv_icmp_ge (tgt := 195) hx hb dL_randomShow_135 (by decide) (fun h5 => absurd h5 (nI_ge hxw (by omega))) (fun _ => ?_)
                    obtain ⟨line, eline⟩ : ∃ z : List Int32, z = (rsL op x (rsR op w y (rsP n w hh p9 sd0))).1 := ⟨_, rfl⟩
                    obtain ⟨sx, esx⟩ : ∃ z : Int32, z = (rsL op x (rsR op w y (rsP n w hh p9 sd0))).2 := ⟨_, rfl⟩
                    have hll : line.length = x := by rw [eline]; exact rsL_len _ _ _
                    have hla : ascS line := by rw [eline]; exact rsL_asc _ _ _
                    rw [← eline] at hln
                    rw [← esx] at hP hD
                    refine va_new (ci := 12) (fs := [.null, .int 0, .int 0, .int 0]) (C := RJ4) (T := TJ4) (N := 4) hx hb hts inJ4 tyJ4 tyJ4_ok hown k135 nJ4 iRJ4 hK hP hD hS hA rfl (fun j hj => by rcases (show j = 0 ∨ j = 1 ∨ j = 2 ∨ j = 3 by omega) with rfl | rfl | rfl | rfl <;> rfl) (by show ((c0 + 150 * p9 + 37 * y + 6 * x) + 1) ≤ 4000; omega) (by show ((s0 + 15000 * p9 + 3750 * y + 624 * x) + 4) ≤ 300000; omega) dL_randomShow_138 (fun bz H hP hD hS => ?_)
                    have hP := va_P.swap hP
                    have hD := va_D.swap hD
                    have hP : va_P D vwCl ([(r, .inr (9, [.int sx])), (a, .inr (10, [.int (nI w), .int (nI hh), .int s2, .int s3, .int s4, .ref qP, v6, v7, v8, v9, v10])), (qP, .inl (cy 7, n, .inr (.inr (.inr (.inr (fun i => some (rP i))))))), (bz, .inr (12, [.null, .int (0 : Int32), .int (0 : Int32), .int (0 : Int32)]))] ++ ((CWB cy u qo (stW st f b) qb B) ++ (rl n rP (fun q => rowE cy hh (gr q)) ++ (Y0 ++ G)))) H := hP
                    have hD : va_D A ([(r, .inr (9, [.int sx])), (a, .inr (10, [.int (nI w), .int (nI hh), .int s2, .int s3, .int s4, .ref qP, v6, v7, v8, v9, v10])), (qP, .inl (cy 7, n, .inr (.inr (.inr (.inr (fun i => some (rP i))))))), (bz, .inr (12, [.null, .int (0 : Int32), .int (0 : Int32), .int (0 : Int32)]))] ++ ((CWB cy u qo (stW st f b) qb B) ++ (rl n rP (fun q => rowE cy hh (gr q)) ++ (Y0 ++ G)))) := hD
                    refine lv_dup hx hb dL_randomShow_141 rfl ?_
                    refine kc_E (va_runI (As := []) (rest := [.ref bz]) ⟨hx, hb, hml, hown, hts⟩ (c_J4_init_da8c8 bz H.size) (cwI 0 hts gL_randomShow_J4_init_da8c8 rfl rfl rfl iRJ4 l137 imJ4_init_da8c8 rfl kd_J4_init_da8c8 ⟨by dsimp only; omega, by dsimp only; omega⟩) ⟨kP_blind (EN_ok D cy) D _ _ _, kStart (EN_ok D cy) hE hP hD hS hA [3] rfl rfl _⟩ rfl rfl hl.1 rfl (lv_room (Nat.le_of_ble_eq_true rfl)) dL_randomShow_142 ⟨by show ((c0 + 150 * p9 + 37 * y + 6 * x) + 1) + 1 ≤ 4000; omega, by show ((s0 + 15000 * p9 + 3750 * y + 624 * x) + 4) + 16 ≤ 300000; omega⟩) hP hD hS hA [3] rfl (fun _ => Nat.le_of_ble_eq_true rfl) (fun vz H locs _ hP hD hS => ?_)
                    have hP : va_P D vwCl (([(r, .inr (9, [.int sx])), (a, .inr (10, [.int (nI w), .int (nI hh), .int s2, .int s3, .int s4, .ref qP, v6, v7, v8, v9, v10])), (qP, .inl (cy 7, n, .inr (.inr (.inr (.inr (fun i => some (rP i))))))), (bz, .inr (12, [.ref vz, .int (0 : Int32), .int (0 : Int32), .int (nI (([] : List Int32).length))]))] ++ ((CWB cy u qo (stW st f b) qb B) ++ (rl n rP (fun q => rowE cy hh (gr q)) ++ (Y0 ++ G)))) ++ [(vz, .inl (cy 1, 16, .inl (fun _ => (0 : Int32))))]) H := hP
                    have hD : va_D A (([(r, .inr (9, [.int sx])), (a, .inr (10, [.int (nI w), .int (nI hh), .int s2, .int s3, .int s4, .ref qP, v6, v7, v8, v9, v10])), (qP, .inl (cy 7, n, .inr (.inr (.inr (.inr (fun i => some (rP i))))))), (bz, .inr (12, [.ref vz, .int (0 : Int32), .int (0 : Int32), .int (nI (([] : List Int32).length))]))] ++ ((CWB cy u qo (stW st f b) qb B) ++ (rl n rP (fun q => rowE cy hh (gr q)) ++ (Y0 ++ G)))) ++ [(vz, .inl (cy 1, 16, .inl (fun _ => (0 : Int32))))]) := hD
                    have hP := va_P.swap hP
                    have hD := va_D.swap hD
                    have hP : va_P D vwCl ([(r, .inr (9, [.int sx])), (a, .inr (10, [.int (nI w), .int (nI hh), .int s2, .int s3, .int s4, .ref qP, v6, v7, v8, v9, v10])), (qP, .inl (cy 7, n, .inr (.inr (.inr (.inr (fun i => some (rP i))))))), (bz, .inr (12, [.ref vz, .int (0 : Int32), .int (0 : Int32), .int (nI (([] : List Int32).length))])), (vz, .inl (cy 1, 16, .inl (fun _ => (0 : Int32))))] ++ ((CWB cy u qo (stW st f b) qb B) ++ (rl n rP (fun q => rowE cy hh (gr q)) ++ (Y0 ++ G)))) H := hP
                    have hD : va_D A ([(r, .inr (9, [.int sx])), (a, .inr (10, [.int (nI w), .int (nI hh), .int s2, .int s3, .int s4, .ref qP, v6, v7, v8, v9, v10])), (qP, .inl (cy 7, n, .inr (.inr (.inr (.inr (fun i => some (rP i))))))), (bz, .inr (12, [.ref vz, .int (0 : Int32), .int (0 : Int32), .int (nI (([] : List Int32).length))])), (vz, .inl (cy 1, 16, .inl (fun _ => (0 : Int32))))] ++ ((CWB cy u qo (stW st f b) qb B) ++ (rl n rP (fun q => rowE cy hh (gr q)) ++ (Y0 ++ G)))) := hD
                    have okz : sbOK ([] : List Int32) 16 (fun _ => (0 : Int32)) := sbOK_0
                    refine lv_aload hx hb dL_randomShow_145 (lv_at hl 1 rfl) ?_
                    refine kc_R (va_runV (As := [.ref ln]) (rest := []) ⟨hx, hb, hml, hown, hts⟩ (c_J4_append_15ec4 bz vz 16 ln H.size (0 : Int32) ([] : List Int32) line (fun _ => (0 : Int32)) okz hla (by show 0 + line.length ≤ 99; omega)) (cwV 1 hts gL_randomShow_J4_append_15ec4 rfl rfl rfl kd_J4_append_15ec4 ⟨by dsimp only; omega, by dsimp only; omega⟩) ⟨kP_blind (ES_ok D cy line ln) D _ _ _, va_recv hK hP (ci := 12) (q0 := 3) rfl rfl, kStartS hE hP hD hS hA [3, 4] rfl rfl (kT_N hts inJ0 hK (strN.tail (P := (CWB cy u qo (stW st f b) qb B)) (strN.tail (P := (rl n rP (fun q => rowE cy hh (gr q)))) (strN.tail (P := Y0) hln))) hP hD hS hA [3, 4] rfl (by simp)) _⟩ rfl rfl hl.1 rfl (lv_room (Nat.le_of_ble_eq_true rfl)) dL_randomShow_147 ⟨by show (((c0 + 150 * p9 + 37 * y + 6 * x) + 1) + 1) + 1 ≤ 4000; omega, by show (((s0 + 15000 * p9 + 3750 * y + 624 * x) + 4) + 16) + 200 ≤ 300000; omega⟩) hP hD hS hA [3, 4] rfl (fun _ _ => Nat.le_of_ble_eq_true rfl) (fun u rz_1 H locs hu hP hD hS => ?_)
                    obtain ⟨vz_1, mz_1, fz_1⟩ := u
                    obtain ⟨rfl, okz⟩ := hu
                    rw [show ([] : List Int32).length + line.length = (([] : List Int32) ++ line).length from (List.length_append).symm] at hP hD
                    rw [wjn_2] at hP hD
                    have hP : va_P D vwCl ([(r, .inr (9, [.int sx])), (a, .inr (10, [.int (nI w), .int (nI hh), .int s2, .int s3, .int s4, .ref qP, v6, v7, v8, v9, v10])), (qP, .inl (cy 7, n, .inr (.inr (.inr (.inr (fun i => some (rP i))))))), (rz_1, .inr (12, [.ref vz_1, .int (0 : Int32), .int (0 : Int32), .int (nI ((([] : List Int32) ++ line).length))])), (vz_1, .inl (cy 1, mz_1, .inl fz_1))] ++ ((CWB cy u qo (stW st f b) qb B) ++ (rl n rP (fun q => rowE cy hh (gr q)) ++ (Y0 ++ G)))) H := hP
                    have hD : va_D A ([(r, .inr (9, [.int sx])), (a, .inr (10, [.int (nI w), .int (nI hh), .int s2, .int s3, .int s4, .ref qP, v6, v7, v8, v9, v10])), (qP, .inl (cy 7, n, .inr (.inr (.inr (.inr (fun i => some (rP i))))))), (rz_1, .inr (12, [.ref vz_1, .int (0 : Int32), .int (0 : Int32), .int (nI ((([] : List Int32) ++ line).length))])), (vz_1, .inl (cy 1, mz_1, .inl fz_1))] ++ ((CWB cy u qo (stW st f b) qb B) ++ (rl n rP (fun q => rowE cy hh (gr q)) ++ (Y0 ++ G)))) := hD
                    refine lv_iload hx hb dL_randomShow_150 (lv_at hl 3 rfl) ?_
                    refine lv_iconst (v := 1) hx hb dL_randomShow_152 (by decide) ?_
                    refine lv_iadd hx hb dL_randomShow_153 ?_
                    refine lv_iload hx hb dL_randomShow_154 (lv_at hl 5 rfl) ?_
                    have J3 : ∀ (H : Heap) (locs : List Loc) (ls : Array Slot), va_P D vwCl ([(r, .inr (9, [.int (rsC op sx).2])), (a, .inr (10, [.int (nI w), .int (nI hh), .int s2, .int s3, .int s4, .ref qP, v6, v7, v8, v9, v10])), (qP, .inl (cy 7, n, .inr (.inr (.inr (.inr (fun i => some (rP i))))))), (rz_1, .inr (12, [.ref vz_1, .int (0 : Int32), .int (0 : Int32), .int (nI ((([] : List Int32) ++ line).length))])), (vz_1, .inl (cy 1, mz_1, .inl fz_1))] ++ ((CWB cy u qo (stW st f b) qb B) ++ (rl n rP (fun q => rowE cy hh (gr q)) ++ (Y0 ++ G)))) H → va_D A ([(r, .inr (9, [.int (rsC op sx).2])), (a, .inr (10, [.int (nI w), .int (nI hh), .int s2, .int s3, .int s4, .ref qP, v6, v7, v8, v9, v10])), (qP, .inl (cy 7, n, .inr (.inr (.inr (.inr (fun i => some (rP i))))))), (rz_1, .inr (12, [.ref vz_1, .int (0 : Int32), .int (0 : Int32), .int (nI ((([] : List Int32) ++ line).length))])), (vz_1, .inl (cy 1, mz_1, .inl fz_1))] ++ ((CWB cy u qo (stW st f b) qb B) ++ (rl n rP (fun q => rowE cy hh (gr q)) ++ (Y0 ++ G)))) → va_S A s.heap H locs → lv_has ls 10 [(9, .int (nI x)), (8, .ref ln), (7, .int (nI y)), (6, .int (nI p9)), (5, .int (nI told)), (4, .int (nI n)), (3, .ref a), (0, .ref qo), (1, .ref qb), (2, .ref r)] → W p l e ({ frames := 100, cells := 4000, slots := 300000, locals := 4000 } : Room) s m args below meth c H locs ((((c0 + 150 * p9 + 37 * y + 6 * x) + 1) + 1) + 1) ((((s0 + 15000 * p9 + 3750 * y + 624 * x) + 4) + 16) + 200) QQ (F0 m 180 ls [.int (rsC op sx).1, .ref rz_1]) := by
                      intro H locs ls hP hD hS hl
                      refine lv_i2c hx hb dL_randomShow_180 rfl ?_
                      rw [show ((rsC op sx).1.toUInt32 % 65536).toInt32 = (rsC op sx).1 from (char_asc2 (rsC_asc op sx))]
                      refine kc_R (va_runV (As := [.int (rsC op sx).1]) (rest := []) ⟨hx, hb, hml, hown, hts⟩ (c_J4_append_cf468 rz_1 vz_1 mz_1 H.size (0 : Int32) (rsC op sx).1 (([] : List Int32) ++ line) fz_1 okz (by show (line).length < 99; omega) (rsC_asc op sx)) (cwV 1 hts gL_randomShow_J4_append_cf468 rfl rfl rfl kd_J4_append_cf468 ⟨Nat.le_of_ble_eq_true rfl, Nat.le_of_ble_eq_true rfl⟩) ⟨kP_blind (EN_ok D cy) D _ _ _, va_recv hK hP (ci := 12) (q0 := 3) rfl rfl, kStart (EN_ok D cy) hE hP hD hS hA [3, 4] rfl rfl _⟩ rfl rfl hl.1 rfl (lv_room (Nat.le_of_ble_eq_true rfl)) dL_randomShow_181 ⟨by show ((((c0 + 150 * p9 + 37 * y + 6 * x) + 1) + 1) + 1) + 1 ≤ 4000; omega, by show ((((s0 + 15000 * p9 + 3750 * y + 624 * x) + 4) + 16) + 200) + 200 ≤ 300000; omega⟩) hP hD hS hA [3, 4] rfl (fun _ _ => Nat.le_of_ble_eq_true rfl) (fun u rz_2 H locs hu hP hD hS => ?_)
                      obtain ⟨vz_2, mz_2, fz_2⟩ := u
                      obtain ⟨rfl, okz⟩ := hu
                      rw [show (([] : List Int32) ++ line).length + 1 = ((([] : List Int32) ++ line) ++ [(rsC op sx).1]).length from (List.length_append (as := (([] : List Int32) ++ line)) (bs := [(rsC op sx).1])).symm] at hP hD
                      rw [wjn_2] at hP hD
                      have hP : va_P D vwCl ([(r, .inr (9, [.int (rsC op sx).2])), (a, .inr (10, [.int (nI w), .int (nI hh), .int s2, .int s3, .int s4, .ref qP, v6, v7, v8, v9, v10])), (qP, .inl (cy 7, n, .inr (.inr (.inr (.inr (fun i => some (rP i))))))), (rz_2, .inr (12, [.ref vz_2, .int (0 : Int32), .int (0 : Int32), .int (nI (((([] : List Int32) ++ line) ++ [(rsC op sx).1]).length))])), (vz_2, .inl (cy 1, mz_2, .inl fz_2))] ++ ((CWB cy u qo (stW st f b) qb B) ++ (rl n rP (fun q => rowE cy hh (gr q)) ++ (Y0 ++ G)))) H := hP
                      have hD : va_D A ([(r, .inr (9, [.int (rsC op sx).2])), (a, .inr (10, [.int (nI w), .int (nI hh), .int s2, .int s3, .int s4, .ref qP, v6, v7, v8, v9, v10])), (qP, .inl (cy 7, n, .inr (.inr (.inr (.inr (fun i => some (rP i))))))), (rz_2, .inr (12, [.ref vz_2, .int (0 : Int32), .int (0 : Int32), .int (nI (((([] : List Int32) ++ line) ++ [(rsC op sx).1]).length))])), (vz_2, .inl (cy 1, mz_2, .inl fz_2))] ++ ((CWB cy u qo (stW st f b) qb B) ++ (rl n rP (fun q => rowE cy hh (gr q)) ++ (Y0 ++ G)))) := hD
                      refine kc_R (va_runV (As := []) (rest := []) ⟨hx, hb, hml, hown, hts⟩ (c_J4_toString_0e30d rz_2 vz_2 mz_2 ((([] : List Int32) ++ line) ++ [(rsC op sx).1]).length H.size (0 : Int32) fz_2 okz.1 okz.2.1 okz.2.2.1) (cwV 0 hts gL_randomShow_J4_toString_0e30d rfl rfl rfl kd_J4_toString_0e30d ⟨by dsimp only; omega, by dsimp only; omega⟩) ⟨kP_blind (EL_ok D cy) D _ _ _, va_recv hK hP (ci := 12) (q0 := 3) rfl rfl, kStart (EL_ok D cy) hEL hP hD hS hA [3, 4] rfl rfl _⟩ rfl rfl hl.1 rfl (lv_room (Nat.le_of_ble_eq_true rfl)) dL_randomShow_184 ⟨by show (((((c0 + 150 * p9 + 37 * y + 6 * x) + 1) + 1) + 1) + 1) + 2 ≤ 4000; omega, by show (((((s0 + 15000 * p9 + 3750 * y + 624 * x) + 4) + 16) + 200) + 200) + 204 ≤ 300000; omega⟩) hP hD hS hA [3, 4] rfl (fun _ _ => Nat.le_of_ble_eq_true rfl) (fun u sq H locs hu hP hD hS => ?_)
                      obtain ⟨svq, sfq⟩ := u
                      have hsfq : ∀ j, j < ((([] : List Int32) ++ line) ++ [(rsC op sx).1]).length → sfq j = ((([] : List Int32) ++ line) ++ [(rsC op sx).1]).getD j 0 := fun j hj => (hu.2 j hj).trans (okz.2.2.2 j hj)
                      have hP : va_P D vwCl (([(r, .inr (9, [.int (rsC op sx).2])), (a, .inr (10, [.int (nI w), .int (nI hh), .int s2, .int s3, .int s4, .ref qP, v6, v7, v8, v9, v10])), (qP, .inl (cy 7, n, .inr (.inr (.inr (.inr (fun i => some (rP i))))))), (rz_2, .inr (12, [.ref vz_2, .int (0 : Int32), .int (0 : Int32), .int (nI (((([] : List Int32) ++ line) ++ [(rsC op sx).1]).length))])), (vz_2, .inl (cy 1, mz_2, .inl fz_2))] ++ ((CWB cy u qo (stW st f b) qb B) ++ (rl n rP (fun q => rowE cy hh (gr q)) ++ (Y0 ++ G)))) ++ [(sq, .inr (11, [.ref svq, .int (0 : Int32), .int (0 : Int32), .int (0 : Int32)])), (svq, .inl (cy 1, ((([] : List Int32) ++ line) ++ [(rsC op sx).1]).length, .inl sfq))]) H := hP
                      have hD : va_D A (([(r, .inr (9, [.int (rsC op sx).2])), (a, .inr (10, [.int (nI w), .int (nI hh), .int s2, .int s3, .int s4, .ref qP, v6, v7, v8, v9, v10])), (qP, .inl (cy 7, n, .inr (.inr (.inr (.inr (fun i => some (rP i))))))), (rz_2, .inr (12, [.ref vz_2, .int (0 : Int32), .int (0 : Int32), .int (nI (((([] : List Int32) ++ line) ++ [(rsC op sx).1]).length))])), (vz_2, .inl (cy 1, mz_2, .inl fz_2))] ++ ((CWB cy u qo (stW st f b) qb B) ++ (rl n rP (fun q => rowE cy hh (gr q)) ++ (Y0 ++ G)))) ++ [(sq, .inr (11, [.ref svq, .int (0 : Int32), .int (0 : Int32), .int (0 : Int32)])), (svq, .inl (cy 1, ((([] : List Int32) ++ line) ++ [(rsC op sx).1]).length, .inl sfq))]) := hD
                      have hP := va_P.swap hP
                      have hD := va_D.swap hD
                      have hP : va_P D vwCl ([(r, .inr (9, [.int (rsC op sx).2])), (a, .inr (10, [.int (nI w), .int (nI hh), .int s2, .int s3, .int s4, .ref qP, v6, v7, v8, v9, v10])), (qP, .inl (cy 7, n, .inr (.inr (.inr (.inr (fun i => some (rP i))))))), (rz_2, .inr (12, [.ref vz_2, .int (0 : Int32), .int (0 : Int32), .int (nI (((([] : List Int32) ++ line) ++ [(rsC op sx).1]).length))])), (vz_2, .inl (cy 1, mz_2, .inl fz_2)), (sq, .inr (11, [.ref svq, .int (0 : Int32), .int (0 : Int32), .int (0 : Int32)])), (svq, .inl (cy 1, ((([] : List Int32) ++ line) ++ [(rsC op sx).1]).length, .inl sfq))] ++ ((CWB cy u qo (stW st f b) qb B) ++ (rl n rP (fun q => rowE cy hh (gr q)) ++ (Y0 ++ G)))) H := hP
                      have hD : va_D A ([(r, .inr (9, [.int (rsC op sx).2])), (a, .inr (10, [.int (nI w), .int (nI hh), .int s2, .int s3, .int s4, .ref qP, v6, v7, v8, v9, v10])), (qP, .inl (cy 7, n, .inr (.inr (.inr (.inr (fun i => some (rP i))))))), (rz_2, .inr (12, [.ref vz_2, .int (0 : Int32), .int (0 : Int32), .int (nI (((([] : List Int32) ++ line) ++ [(rsC op sx).1]).length))])), (vz_2, .inl (cy 1, mz_2, .inl fz_2)), (sq, .inr (11, [.ref svq, .int (0 : Int32), .int (0 : Int32), .int (0 : Int32)])), (svq, .inl (cy 1, ((([] : List Int32) ++ line) ++ [(rsC op sx).1]).length, .inl sfq))] ++ ((CWB cy u qo (stW st f b) qb B) ++ (rl n rP (fun q => rowE cy hh (gr q)) ++ (Y0 ++ G)))) := hD
                      refine lv_astore (lv' := [(8, .ref sq), (9, .int (nI x)), (7, .int (nI y)), (6, .int (nI p9)), (5, .int (nI told)), (4, .int (nI n)), (3, .ref a), (0, .ref qo), (1, .ref qb), (2, .ref r)]) hx hb dL_randomShow_187 hl (by decide) rfl (fun ls hl => ?_)
                      have et : ((([] : List Int32) ++ line) ++ [(rsC op sx).1]) = (rsL op (x + 1) (rsR op w y (rsP n w hh p9 sd0))).1 := by rw [eline, esx]; rfl
                      have es : (rsC op sx).2 = (rsL op (x + 1) (rsR op w y (rsP n w hh p9 sd0))).2 := by rw [esx]; rfl
                      refine lv_iinc (v := (nI (x + 1))) (lv' := [(9, .int (nI (x + 1))), (8, .ref sq), (7, .int (nI y)), (6, .int (nI p9)), (5, .int (nI told)), (4, .int (nI n)), (3, .ref a), (0, .ref qo), (1, .ref qb), (2, .ref r)]) hx hb dL_randomShow_189 hl (k := 1) rfl (by rw [nI_succ]; rfl) (by decide) rfl (fun ls hl => ?_)
                      refine lv_goto (tgt := 129) hx hb dL_randomShow_192 (by decide) ?_
                      have hm : ∀ z ∈ G, z ∈ G ++ ([(rz_2, .inr (12, [.ref vz_2, .int (0 : Int32), .int (0 : Int32), .int (nI (((([] : List Int32) ++ line) ++ [(rsC op sx).1]).length))])), (vz_2, .inl (cy 1, mz_2, .inl fz_2)), (sq, .inr (11, [.ref svq, .int (0 : Int32), .int (0 : Int32), .int (0 : Int32)])), (svq, .inl (cy 1, ((([] : List Int32) ++ line) ++ [(rsC op sx).1]).length, .inl sfq))] : va_W) := fun z hz => List.mem_append_left _ hz
                      have hs : strM cy (rsL op (x + 1) (rsR op w y (rsP n w hh p9 sd0))).1 sq (G ++ [(rz_2, .inr (12, [.ref vz_2, .int (0 : Int32), .int (0 : Int32), .int (nI (((([] : List Int32) ++ line) ++ [(rsC op sx).1]).length))])), (vz_2, .inl (cy 1, mz_2, .inl fz_2)), (sq, .inr (11, [.ref svq, .int (0 : Int32), .int (0 : Int32), .int (0 : Int32)])), (svq, .inl (cy 1, ((([] : List Int32) ++ line) ++ [(rsC op sx).1]).length, .inl sfq))]) := ⟨svq, sfq, List.mem_append_right _ (by simp), List.mem_append_right _ (by rw [← et]; simp), by rw [← et]; exact hsfq⟩
                      have hP := hP.perm (pm_end (P := [(r, .inr (9, [.int (rsC op sx).2])), (a, .inr (10, [.int (nI w), .int (nI hh), .int s2, .int s3, .int s4, .ref qP, v6, v7, v8, v9, v10])), (qP, .inl (cy 7, n, .inr (.inr (.inr (.inr (fun i => some (rP i)))))))]) (Q := [(rz_2, .inr (12, [.ref vz_2, .int (0 : Int32), .int (0 : Int32), .int (nI (((([] : List Int32) ++ line) ++ [(rsC op sx).1]).length))])), (vz_2, .inl (cy 1, mz_2, .inl fz_2)), (sq, .inr (11, [.ref svq, .int (0 : Int32), .int (0 : Int32), .int (0 : Int32)])), (svq, .inl (cy 1, ((([] : List Int32) ++ line) ++ [(rsC op sx).1]).length, .inl sfq))]) (B := CWB cy u qo (stW st f b) qb B) (Z := rl n rP (fun q => rowE cy hh (gr q)) ++ (Y0 ++ G)))
                      have hD := hD.perm (pm_end (P := [(r, .inr (9, [.int (rsC op sx).2])), (a, .inr (10, [.int (nI w), .int (nI hh), .int s2, .int s3, .int s4, .ref qP, v6, v7, v8, v9, v10])), (qP, .inl (cy 7, n, .inr (.inr (.inr (.inr (fun i => some (rP i)))))))]) (Q := [(rz_2, .inr (12, [.ref vz_2, .int (0 : Int32), .int (0 : Int32), .int (nI (((([] : List Int32) ++ line) ++ [(rsC op sx).1]).length))])), (vz_2, .inl (cy 1, mz_2, .inl fz_2)), (sq, .inr (11, [.ref svq, .int (0 : Int32), .int (0 : Int32), .int (0 : Int32)])), (svq, .inl (cy 1, ((([] : List Int32) ++ line) ++ [(rsC op sx).1]).length, .inl sfq))]) (B := CWB cy u qo (stW st f b) qb B) (Z := rl n rP (fun q => rowE cy hh (gr q)) ++ (Y0 ++ G)))
                      rw [List.append_assoc (rl n rP (fun q => rowE cy hh (gr q))), List.append_assoc Y0, es] at hP hD
                      refine W.widen (k := c0 + 150 * p9 + 37 * y + 6 * (x + 1)) (n := s0 + 15000 * p9 + 3750 * y + 624 * (x + 1)) (by omega) (by omega) ?_
                      exact ih3 (x + 1) sq _ H _ ls (by omega) (by omega) (hrows.mono hm) (Or.inr hs) (fun _ => hs) hP hD hS (lv_sub hl [0, 1, 2, 3, 4, 5, 6, 7, 8, 9] rfl)
                    rw [show nI p9 + (1 : Int32) = nI (p9 + 1) from nI_1 p9]
                    have J4 : ∀ (H : Heap) (locs : List Loc) (ls : Array Slot) (s5 : Int32), (rsC op sx) = (nI (97 + rnV s5 % 4), rnS s5) → va_P D vwCl ([(r, .inr (9, [.int s5])), (a, .inr (10, [.int (nI w), .int (nI hh), .int s2, .int s3, .int s4, .ref qP, v6, v7, v8, v9, v10])), (qP, .inl (cy 7, n, .inr (.inr (.inr (.inr (fun i => some (rP i))))))), (rz_1, .inr (12, [.ref vz_1, .int (0 : Int32), .int (0 : Int32), .int (nI ((([] : List Int32) ++ line).length))])), (vz_1, .inl (cy 1, mz_1, .inl fz_1))] ++ ((CWB cy u qo (stW st f b) qb B) ++ (rl n rP (fun q => rowE cy hh (gr q)) ++ (Y0 ++ G)))) H → va_D A ([(r, .inr (9, [.int s5])), (a, .inr (10, [.int (nI w), .int (nI hh), .int s2, .int s3, .int s4, .ref qP, v6, v7, v8, v9, v10])), (qP, .inl (cy 7, n, .inr (.inr (.inr (.inr (fun i => some (rP i))))))), (rz_1, .inr (12, [.ref vz_1, .int (0 : Int32), .int (0 : Int32), .int (nI ((([] : List Int32) ++ line).length))])), (vz_1, .inl (cy 1, mz_1, .inl fz_1))] ++ ((CWB cy u qo (stW st f b) qb B) ++ (rl n rP (fun q => rowE cy hh (gr q)) ++ (Y0 ++ G)))) → va_S A s.heap H locs → lv_has ls 10 [(9, .int (nI x)), (8, .ref ln), (7, .int (nI y)), (6, .int (nI p9)), (5, .int (nI told)), (4, .int (nI n)), (3, .ref a), (0, .ref qo), (1, .ref qb), (2, .ref r)] → W p l e ({ frames := 100, cells := 4000, slots := 300000, locals := 4000 } : Room) s m args below meth c H locs ((((c0 + 150 * p9 + 37 * y + 6 * x) + 1) + 1) + 1) ((((s0 + 15000 * p9 + 3750 * y + 624 * x) + 4) + 16) + 200) QQ (F0 m 172 ls [.ref rz_1]) := by
                      intro H locs ls s5 e5 hP hD hS hl
                      refine lv_bipush (v := 97) hx hb dL_randomShow_172 (by decide) ?_
                      refine lv_aload_n hx hb dL_randomShow_174 rfl (lv_at hl 9 rfl) ?_
                      refine lv_iconst (v := 4) hx hb dL_randomShow_175 (by decide) ?_
                      refine kc_i (va_runV (As := [.int (4 : Int32)]) (rest := [.int (97 : Int32), .ref rz_1]) ⟨hx, hb, hml, hown, hts⟩ (c_X9_below r (4) H.size s5 (by omega) (by omega)) (cwV 1 hts gL_randomShow_X9_below rfl rfl rfl kd_X9_below ⟨Nat.le_of_ble_eq_true rfl, Nat.le_of_ble_eq_true rfl⟩) ⟨kP_blind (EN_ok D cy) D _ _ _, va_recv hK hP (ci := 9) (q0 := 0) rfl rfl, kStart (EN_ok D cy) hE hP hD hS hA [0] rfl rfl _⟩ rfl rfl hl.1 rfl (lv_room (Nat.le_of_ble_eq_true rfl)) dL_randomShow_176 ⟨by show ((((c0 + 150 * p9 + 37 * y + 6 * x) + 1) + 1) + 1) + 0 ≤ 4000; omega, by show ((((s0 + 15000 * p9 + 3750 * y + 624 * x) + 4) + 16) + 200) + 0 ≤ 300000; omega⟩) hP hD hS hA [0] rfl (Nat.le_refl _) (fun H locs hP hD hS => ?_)
                      rw [wjn_1] at hP hD
                      have hP : va_P D vwCl ([(r, .inr (9, [.int (rnS s5)])), (a, .inr (10, [.int (nI w), .int (nI hh), .int s2, .int s3, .int s4, .ref qP, v6, v7, v8, v9, v10])), (qP, .inl (cy 7, n, .inr (.inr (.inr (.inr (fun i => some (rP i))))))), (rz_1, .inr (12, [.ref vz_1, .int (0 : Int32), .int (0 : Int32), .int (nI ((([] : List Int32) ++ line).length))])), (vz_1, .inl (cy 1, mz_1, .inl fz_1))] ++ ((CWB cy u qo (stW st f b) qb B) ++ (rl n rP (fun q => rowE cy hh (gr q)) ++ (Y0 ++ G)))) H := hP
                      have hD : va_D A ([(r, .inr (9, [.int (rnS s5)])), (a, .inr (10, [.int (nI w), .int (nI hh), .int s2, .int s3, .int s4, .ref qP, v6, v7, v8, v9, v10])), (qP, .inl (cy 7, n, .inr (.inr (.inr (.inr (fun i => some (rP i))))))), (rz_1, .inr (12, [.ref vz_1, .int (0 : Int32), .int (0 : Int32), .int (nI ((([] : List Int32) ++ line).length))])), (vz_1, .inl (cy 1, mz_1, .inl fz_1))] ++ ((CWB cy u qo (stW st f b) qb B) ++ (rl n rP (fun q => rowE cy hh (gr q)) ++ (Y0 ++ G)))) := hD
                      refine lv_iadd hx hb dL_randomShow_179 ?_
                      have J3 := J3 H _ ls (by rw [e5]; exact hP) (by rw [e5]; exact hD) hS hl
                      rw [e5] at J3
                      rw [show (97 : Int32) + nI (rnV s5 % 4) = nI (97 + rnV s5 % 4) from nI_add 97 _]
                      exact J3
                    by_cases hc : p9 + 1 < n
                    · skip
                      have ho : op = true := by rw [eop]; exact decide_eq_true hc
                      refine lv_icmp_ge (tgt := 172) hx hb dL_randomShow_156 (by decide) (fun h6 => absurd h6 (nI_ge hc (by omega))) (fun _ => ?_)
                      refine lv_aload_n hx hb dL_randomShow_159 rfl (lv_at hl 9 rfl) ?_
                      refine lv_iconst (v := 2) hx hb dL_randomShow_160 (by decide) ?_
                      refine kc_i (va_runV (As := [.int (2 : Int32)]) (rest := [.ref rz_1]) ⟨hx, hb, hml, hown, hts⟩ (c_X9_below r (2) H.size sx (by omega) (by omega)) (cwV 1 hts gL_randomShow_X9_below rfl rfl rfl kd_X9_below ⟨Nat.le_of_ble_eq_true rfl, Nat.le_of_ble_eq_true rfl⟩) ⟨kP_blind (EN_ok D cy) D _ _ _, va_recv hK hP (ci := 9) (q0 := 0) rfl rfl, kStart (EN_ok D cy) hE hP hD hS hA [0] rfl rfl _⟩ rfl rfl hl.1 rfl (lv_room (Nat.le_of_ble_eq_true rfl)) dL_randomShow_161 ⟨by show ((((c0 + 150 * p9 + 37 * y + 6 * x) + 1) + 1) + 1) + 0 ≤ 4000; omega, by show ((((s0 + 15000 * p9 + 3750 * y + 624 * x) + 4) + 16) + 200) + 0 ≤ 300000; omega⟩) hP hD hS hA [0] rfl (Nat.le_refl _) (fun H locs hP hD hS => ?_)
                      rw [wjn_1] at hP hD
                      have hP : va_P D vwCl ([(r, .inr (9, [.int (rnS sx)])), (a, .inr (10, [.int (nI w), .int (nI hh), .int s2, .int s3, .int s4, .ref qP, v6, v7, v8, v9, v10])), (qP, .inl (cy 7, n, .inr (.inr (.inr (.inr (fun i => some (rP i))))))), (rz_1, .inr (12, [.ref vz_1, .int (0 : Int32), .int (0 : Int32), .int (nI ((([] : List Int32) ++ line).length))])), (vz_1, .inl (cy 1, mz_1, .inl fz_1))] ++ ((CWB cy u qo (stW st f b) qb B) ++ (rl n rP (fun q => rowE cy hh (gr q)) ++ (Y0 ++ G)))) H := hP
                      have hD : va_D A ([(r, .inr (9, [.int (rnS sx)])), (a, .inr (10, [.int (nI w), .int (nI hh), .int s2, .int s3, .int s4, .ref qP, v6, v7, v8, v9, v10])), (qP, .inl (cy 7, n, .inr (.inr (.inr (.inr (fun i => some (rP i))))))), (rz_1, .inr (12, [.ref vz_1, .int (0 : Int32), .int (0 : Int32), .int (nI ((([] : List Int32) ++ line).length))])), (vz_1, .inl (cy 1, mz_1, .inl fz_1))] ++ ((CWB cy u qo (stW st f b) qb B) ++ (rl n rP (fun q => rowE cy hh (gr q)) ++ (Y0 ++ G)))) := hD
                      by_cases h0 : rnV sx % 2 = 0
                      · skip
                        refine lv_if_ne (tgt := 172) hx hb dL_randomShow_164 (by decide) (fun h7 => absurd (congrArg nI h0) h7) (fun _ => ?_)
                        refine lv_bipush (v := 46) hx hb dL_randomShow_167 (by decide) ?_
                        refine lv_goto (tgt := 180) hx hb dL_randomShow_169 (by decide) ?_
                        have e5 : rsC op sx = (46, rnS sx) := if_pos ⟨ho, h0⟩
                        have J3 := J3 H _ ls (by rw [e5]; exact hP) (by rw [e5]; exact hD) hS hl
                        rw [e5] at J3
                        exact J3
                      · skip
                        refine lv_if_ne (tgt := 172) hx hb dL_randomShow_164 (by decide) (fun _ => ?_) (fun h7 => absurd h7 (fun z => h0 ((nI_eq (b := 0) (by omega) (by decide)).mp z)))
                        exact J4 H _ ls (rnS sx) (by unfold rsC; rw [if_neg (fun z => h0 z.2), if_pos ho]) hP hD hS hl
                    · skip
                      have ho : ¬ op = true := by rw [eop]; exact fun z => hc (of_decide_eq_true z)
                      refine lv_icmp_ge (tgt := 172) hx hb dL_randomShow_156 (by decide) (fun _ => ?_) (fun h6 => absurd (nI_le (a := n) (b := p9 + 1) (by omega) (by omega)) h6)
                      exact J4 H _ ls sx (by unfold rsC; rw [if_neg (fun z => ho z.1), if_neg ho]) hP hD hS hl
                  · skip
                    have exw : x = w := by omega
                    have hlm := hlm (by omega)
                    rw [exw] at hlm hP hD
                    refine lv_icmp_ge (tgt := 195) hx hb dL_randomShow_135 (by decide) (fun _ => ?_) (fun h5 => absurd (nI_le (a := w) (b := x) (by omega) (by omega)) h5)
                    refine lv_aload_n hx hb dL_randomShow_195 rfl (lv_at hl 6 rfl) ?_
                    refine va_get (D := D) (ci := 10) (v := .ref qP) (C := RX10) (T := TX10) (N := 11) hx hb hts inX10 hown hK hP 1 rfl rfl 5 (by decide) f148 (fun _ h9 => h9) rfl dL_randomShow_196 ?_
                    refine lv_iload hx hb dL_randomShow_199 (lv_at hl 3 rfl) ?_
                    refine kg_alda hx hb hK hP 2 7 rfl rfl (vp_in_nI (show p9 < n by omega) (by omega)) dL_randomShow_201 ?_
                    rw [nI_clamp (by omega)]
                    show W p l e ({ frames := 100, cells := 4000, slots := 300000, locals := 4000 } : Room) s m args below meth c H _ (c0 + 150 * p9 + 37 * y + 6 * x) (s0 + 15000 * p9 + 3750 * y + 624 * x) QQ (F0 m 202 ls [.ref (rP p9)])
                    refine lv_iload hx hb dL_randomShow_202 (lv_at hl 2 rfl) ?_
                    refine lv_aload hx hb dL_randomShow_204 (lv_at hl 1 rfl) ?_
                    obtain ⟨lv, lf, m1, m2, hlf⟩ := id hlm
                    obtain ⟨k1, hk1⟩ := List.getElem?_of_mem (List.mem_append_right (([(r, .inr (9, [.int (rsL op w (rsR op w y (rsP n w hh p9 sd0))).2])), (a, .inr (10, [.int (nI w), .int (nI hh), .int s2, .int s3, .int s4, .ref qP, v6, v7, v8, v9, v10])), (qP, .inl (cy 7, n, .inr (.inr (.inr (.inr (fun i => some (rP i)))))))] : va_W) ++ CWB cy u qo (stW st f b) qb B) (List.mem_append_right (rl n rP (fun q => rowE cy hh (gr q))) (List.mem_append_right Y0 m1)))
                    rw [List.append_assoc] at hk1
                    have hrow := rw_get (P := [(r, .inr (9, [.int (rsL op w (rsR op w y (rsP n w hh p9 sd0))).2])), (a, .inr (10, [.int (nI w), .int (nI hh), .int s2, .int s3, .int s4, .ref qP, v6, v7, v8, v9, v10])), (qP, .inl (cy 7, n, .inr (.inr (.inr (.inr (fun i => some (rP i)))))))]) (C := CWB cy u qo (stW st f b) qb B) (Y := Y0 ++ G) (n := n) (r := rP) (e := fun q => rowE cy hh (gr q)) (show p9 < n by omega)
                    refine va_astq (r := (RJ0, TJ0, 4)) hx hb hK hP hD hS _ 6 k1 11 hrow rfl hk1 rfl (vp_in_nI hy (by omega)) dL_randomShow_206 (fun H locs hP hD hS => ?_)
                    rw [nI_clamp (by omega)] at hP hD
                    have e9 := rw_set (P := [(r, .inr (9, [.int (rsL op w (rsR op w y (rsP n w hh p9 sd0))).2])), (a, .inr (10, [.int (nI w), .int (nI hh), .int s2, .int s3, .int s4, .ref qP, v6, v7, v8, v9, v10])), (qP, .inl (cy 7, n, .inr (.inr (.inr (.inr (fun i => some (rP i)))))))]) (C := CWB cy u qo (stW st f b) qb B) (Y := Y0 ++ G) (n := n) (r := rP) (e := fun q => rowE cy hh (gr q)) (x := rowE cy hh (va_up (gr p9) y (some ln))) (show p9 < n by omega)
                    rw [rowE_if] at e9
                    have hP : va_P D vwCl ([(r, .inr (9, [.int (rsL op w (rsR op w y (rsP n w hh p9 sd0))).2])), (a, .inr (10, [.int (nI w), .int (nI hh), .int s2, .int s3, .int s4, .ref qP, v6, v7, v8, v9, v10])), (qP, .inl (cy 7, n, .inr (.inr (.inr (.inr (fun i => some (rP i)))))))] ++ ((CWB cy u qo (stW st f b) qb B) ++ (rl n rP (fun q => rowE cy hh ((fun q => if q = p9 then va_up (gr p9) y (some ln) else gr q) q)) ++ (Y0 ++ G)))) H := by rw [← e9]; exact hP
                    have hD : va_D A ([(r, .inr (9, [.int (rsL op w (rsR op w y (rsP n w hh p9 sd0))).2])), (a, .inr (10, [.int (nI w), .int (nI hh), .int s2, .int s3, .int s4, .ref qP, v6, v7, v8, v9, v10])), (qP, .inl (cy 7, n, .inr (.inr (.inr (.inr (fun i => some (rP i)))))))] ++ ((CWB cy u qo (stW st f b) qb B) ++ (rl n rP (fun q => rowE cy hh ((fun q => if q = p9 then va_up (gr p9) y (some ln) else gr q) q)) ++ (Y0 ++ G)))) := by rw [← e9]; exact hD
                    have hrows := hrows.put (by unfold rsT; rw [← eop]; exact hlm)
                    refine lv_aload_n hx hb dL_randomShow_207 rfl (lv_at hl 7 rfl) ?_
                    refine lv_aload_n hx hb dL_randomShow_208 rfl (lv_at hl 8 rfl) ?_
                    obtain ⟨a6, hRa6, hTa6⟩ := hL.2.2.2.2.2.2.2 ("PeepBoxLaw", 100, " ", [32]) (by decide +kernel)
                    refine va_ldcS hx hb hown hRa6 dL_randomShow_209 ?_
                    obtain ⟨f2, b2, B2, T2, M2⟩ := k_L_write (l := l) (D := D) (cy := cy) (s := ([32] : List Int32)) u qo qb H.size (stW st f b) a6 (ascS_lit (by decide)) (by simp only [List.length_append, List.length_cons, List.length_nil]; omega) T
                    refine kq_v (va_runS (As := [.ref qo, .ref qb, .ref a6]) (rest := []) ⟨hx, hb, hml, hown, hts⟩ M2 (va_cwS 3 hts gL_randomShow_L_write rfl rfl rfl kd_L_write ⟨Nat.le_of_ble_eq_true rfl, Nat.le_of_ble_eq_true rfl⟩) ⟨kP_blind (ES_ok D cy ([32] : List Int32) a6) D _ _ _, kqStartS hE hP hD hS hA (kT_qo hTa6 hD hS hA) _⟩ rfl rfl hl.1 rfl (lv_room (Nat.le_of_ble_eq_true rfl)) dL_randomShow_211 ⟨by show (c0 + 150 * p9 + 37 * y + 6 * x) + 0 ≤ 4000; omega, by show (s0 + 15000 * p9 + 3750 * y + 624 * x) + 0 ≤ 300000; omega⟩) hP hD hS hA (fun H locs hP hD hS => ?_)
                    rw [stW_stW] at hP hD
                    refine lv_aload_n hx hb dL_randomShow_214 rfl (lv_at hl 7 rfl) ?_
                    refine lv_aload_n hx hb dL_randomShow_215 rfl (lv_at hl 8 rfl) ?_
                    refine lv_aload hx hb dL_randomShow_216 (lv_at hl 1 rfl) ?_
                    have hla : ascS (rsL op w (rsR op w y (rsP n w hh p9 sd0))).1 := rsL_asc _ _ _
                    have hll : (rsL op w (rsR op w y (rsP n w hh p9 sd0))).1.length = w := rsL_len _ _ _
                    obtain ⟨f3, b3, B3, T3, M3⟩ := k_L_write (l := l) (D := D) (cy := cy) (s := (rsL op w (rsR op w y (rsP n w hh p9 sd0))).1) u qo qb H.size (stW st f2 b2) ln hla (by simp only [List.length_append, List.length_cons, List.length_nil]; omega) T2
                    refine kq_v (va_runS (As := [.ref qo, .ref qb, .ref ln]) (rest := []) ⟨hx, hb, hml, hown, hts⟩ M3 (va_cwS 3 hts gL_randomShow_L_write rfl rfl rfl kd_L_write ⟨Nat.le_of_ble_eq_true rfl, Nat.le_of_ble_eq_true rfl⟩) ⟨kP_blind (ES_ok D cy (rsL op w (rsR op w y (rsP n w hh p9 sd0))).1 ln) D _ _ _, kqStartS hE hP hD hS hA (kT_q hts inJ0 hK (hlm.mono (fun z hz => List.mem_append_right _ (List.mem_append_right _ (List.mem_append_right _ hz)))) hP hD) _⟩ rfl rfl hl.1 rfl (lv_room (Nat.le_of_ble_eq_true rfl)) dL_randomShow_218 ⟨by show (c0 + 150 * p9 + 37 * y + 6 * x) + 0 ≤ 4000; omega, by show (s0 + 15000 * p9 + 3750 * y + 624 * x) + 0 ≤ 300000; omega⟩) hP hD hS hA (fun H locs hP hD hS => ?_)
                    rw [stW_stW] at hP hD
                    refine lv_iinc (v := (nI (y + 1))) (lv' := [(7, .int (nI (y + 1))), (9, .int (nI x)), (8, .ref ln), (6, .int (nI p9)), (5, .int (nI told)), (4, .int (nI n)), (3, .ref a), (0, .ref qo), (1, .ref qb), (2, .ref r)]) hx hb dL_randomShow_221 hl (k := 2) rfl (by rw [nI_succ]; rfl) (by decide) rfl (fun ls hl => ?_)
                    refine lv_goto (tgt := 113) hx hb dL_randomShow_224 (by decide) ?_
                    have eT : ((tx0 ++ plT n w hh sd0 p9) ++ [112, 108, 97, 110, 101] ++ rwT n w hh sd0 p9 y) ++ [32] ++ (rsL op w (rsR op w y (rsP n w hh p9 sd0))).1 = ((tx0 ++ plT n w hh sd0 p9) ++ [112, 108, 97, 110, 101] ++ rwT n w hh sd0 p9 (y + 1)) := by simp only [rwT, rsT, ← eop, List.append_assoc]
                    rw [eT] at T3
                    refine W.widen (k := c0 + 150 * p9 + 37 * (y + 1)) (n := s0 + 15000 * p9 + 3750 * (y + 1)) (by omega) (by omega) ?_
                    exact ih2 (y + 1) _ _ _ (fun q => if q = p9 then va_up (gr p9) y (some ln) else gr q) G H _ ls (by omega) (by omega) T3 hrows hP hD hS (lv_sub hl [0, 3, 4, 5, 6, 7, 8, 9] rfl)
              refine W.widen (k := c0 + 150 * p9 + 37 * y + 6 * 0) (n := s0 + 15000 * p9 + 3750 * y + 624 * 0) (by omega) (by omega) ?_
              exact J2 (w + 1) 0 a4 G H _ ls (by omega) (by omega) hrows (Or.inl hTa4) (fun h => absurd h (by omega)) hP hD hS (lv_sub hl [0, 1, 2, 3, 4, 5, 6, 7, 8, 9] rfl)
            · skip
              have eyh : y = hh := by omega
              rw [eyh] at hrows hP hD T hrw hwy
              refine lv_icmp_ge (tgt := 227) hx hb dL_randomShow_119 (by decide) (fun _ => ?_) (fun h3 => absurd (nI_le (a := hh) (b := y) (by omega) (by omega)) h3)
              refine lv_aload_n hx hb dL_randomShow_227 rfl (lv_at hl 5 rfl) ?_
              refine lv_aload_n hx hb dL_randomShow_228 rfl (lv_at hl 6 rfl) ?_
              obtain ⟨a4, hRa4, hTa4⟩ := hL.2.2.2.2.2.2.2 ("PeepBoxLaw", 126, ";", [59]) (by decide +kernel)
              refine va_ldcS hx hb hown hRa4 dL_randomShow_229 ?_
              obtain ⟨f4, b4, B4, T4, M4⟩ := k_L_write (l := l) (D := D) (cy := cy) (s := ([59] : List Int32)) u qo qb H.size (stW st f b) a4 (ascS_lit (by decide)) (by simp only [List.length_append, List.length_cons, List.length_nil]; omega) T
              refine kq_v (va_runS (As := [.ref qo, .ref qb, .ref a4]) (rest := []) ⟨hx, hb, hml, hown, hts⟩ M4 (va_cwS 3 hts gL_randomShow_L_write rfl rfl rfl kd_L_write ⟨Nat.le_of_ble_eq_true rfl, Nat.le_of_ble_eq_true rfl⟩) ⟨kP_blind (ES_ok D cy ([59] : List Int32) a4) D _ _ _, kqStartS hE hP hD hS hA (kT_qo hTa4 hD hS hA) _⟩ rfl rfl hl.1 rfl (lv_room (Nat.le_of_ble_eq_true rfl)) dL_randomShow_231 ⟨by show (c0 + 150 * p9 + 37 * y) + 0 ≤ 4000; omega, by show (s0 + 15000 * p9 + 3750 * y) + 0 ≤ 300000; omega⟩) hP hD hS hA (fun H locs hP hD hS => ?_)
              rw [stW_stW] at hP hD
              refine lv_iinc (v := (nI (p9 + 1))) (lv' := [(6, .int (nI (p9 + 1))), (7, .int (nI y)), (5, .int (nI told)), (4, .int (nI n)), (3, .ref a), (0, .ref qo), (1, .ref qb), (2, .ref r)]) hx hb dL_randomShow_234 hl (k := 1) rfl (by rw [nI_succ]; rfl) (by decide) rfl (fun ls hl => ?_)
              refine lv_goto (tgt := 96) hx hb dL_randomShow_237 (by decide) ?_
              have eT : ((tx0 ++ plT n w hh sd0 p9) ++ [112, 108, 97, 110, 101] ++ rwT n w hh sd0 p9 hh) ++ [59] = (tx0 ++ plT n w hh sd0 (p9 + 1)) := by simp only [plT, List.append_assoc]
              rw [eT] at T4
              have eS : (rsR op w hh (rsP n w hh p9 sd0)) = rsP n w hh (p9 + 1) sd0 := by rw [eop]; rfl
              rw [eS] at hP hD
              refine W.widen (k := c0 + 150 * (p9 + 1)) (n := s0 + 15000 * (p9 + 1)) (by omega) (by omega) ?_
              exact ih (p9 + 1) _ _ _ gr G H _ ls (by omega) (by omega) T4 hrows.next hP hD hS (lv_sub hl [0, 2, 3, 4, 5, 6, 7] rfl)
        refine W.widen (k := c0 + 150 * p9 + 37 * 0) (n := s0 + 15000 * p9 + 3750 * 0) (by omega) (by omega) ?_
        exact J1 (hh + 1) 0 _ _ _ gr G H _ ls (by omega) (by omega) (by rw [rwT, List.append_nil]; exact T1) hrows hP hD hS (lv_sub hl [0, 1, 2, 3, 4, 5, 6, 7] rfl)
      · skip
        have ept : p9 = told := by omega
        rw [ept] at hrows hP hD T
        refine lv_icmp_ge (tgt := 240) hx hb dL_randomShow_100 (by decide) (fun _ => ?_) (fun h1 => absurd (nI_le (a := told) (b := p9) (by omega) (by omega)) h1)
        refine W.widen (k := c0 + 610) (n := s0 + 60100) (by omega) (by omega) ?_
        exact K _ _ _ gr G H _ ls T hrows hP hD hS (lv_sub hl [2, 3, 4, 5, 6] rfl)
  refine W.widen (k := c0 + 150 * 0) (n := s0 + 15000 * 0) (by omega) (by omega) ?_
  exact J (told + 1) 0 f b B gr G H _ ls (by omega) (by omega) (by rw [plT, List.append_nil]; exact T) hrows hP hD hS (lv_sub hl [0, 1, 2, 3, 4, 5, 6] rfl)
