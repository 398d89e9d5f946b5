/-! the law: the undoing, the last questions (lw3.py) -/
set_option maxHeartbeats 1200000 in
set_option maxRecDepth 100000 in
theorem law_undo {p : Program} {l : Launch} {e : Env} {s : State} {m : MethodId} {below : List Frame} {meth : Method} {c : Code} {b L : Nat} {xs : Nat → Int32} {D : va_G} {cy : Nat → ClassId} {ad : Nat → Nat} {QQ : State → Prop} {u : Nat → Nat} {qo qb r a : Nat} {qP qU qH qG qV qB : Nat} {vT : Value} {rP rH rG : Nat → Nat} {rL : Nat → Nat → Nat} {rN : Nat → Nat} {va : Nat → Int64} {bf : Nat → Option Nat} {Z : va_W} {st : St} {G : LG} {sd : Int32} {c0 s0 : Nat} {hs : Nat → LG} {k dn : Nat} (C : LCx p l s m c b L xs D cy ad) {R : St → LG → (Nat → LG) → Nat → Prop} (hN : NumOK R) (n15 : ∀ st G hs k, R st G hs k → k ≤ 8) (hR : R st G hs k) (hI : GI cy G qP qH vT rP rH rL rN Z) (hB : BN bf Z) (hG : ∀ j, j < dn → j < 8 → GC cy (hs j) (bf j) Z) (hk : min dn 8 ≤ k) (hdn : dn ≤ 18) (hc0 : c0 + 1000 ≤ 600086) (hs0 : s0 + 10000 ≤ 7301442) {H : Heap} {locs : List Loc} {ls : Array Slot} (hP : va_P D vwCl ([(r, .inr (9, [.int sd])), (a, .inr (10, [.int (nI (shZ G 0)), .int (nI (shZ G 1)), .int (shI G 0), .int (shI G 1), .int (shI G 2), .ref qP, .ref qU, .ref qH, .ref qG, vT, .ref qV])), (qU, .inl (cy 0, (shZ G 2), .inl (shP G))), (qG, .inl (cy 8, (shZ G 4), .inr (.inr (.inr (.inr (fun i => some (rG i))))))), (qV, .inl (cy 2, 4, .inr (.inl va))), (qB, .inl (cy 9, 9, .inr (.inr (.inr (.inr bf)))))] ++ (CW cy u qo st ++ (rl (shZ G 4) rG (fun i => guestE (shG G i)) ++ Z))) H) (hD : va_D (fun q => s.heap.size ≤ q) ([(r, .inr (9, [.int sd])), (a, .inr (10, [.int (nI (shZ G 0)), .int (nI (shZ G 1)), .int (shI G 0), .int (shI G 1), .int (shI G 2), .ref qP, .ref qU, .ref qH, .ref qG, vT, .ref qV])), (qU, .inl (cy 0, (shZ G 2), .inl (shP G))), (qG, .inl (cy 8, (shZ G 4), .inr (.inr (.inr (.inr (fun i => some (rG i))))))), (qV, .inl (cy 2, 4, .inr (.inl va))), (qB, .inl (cy 9, 9, .inr (.inr (.inr (.inr bf)))))] ++ (CW cy u qo st ++ (rl (shZ G 4) rG (fun i => guestE (shG G i)) ++ Z)))) (hS : va_S (fun q => s.heap.size ≤ q) s.heap H locs) (hl : lv_has ls 23 [(8, .int (nI dn)), (7, .ref qB), (6, .ref a), (5, .ref r), (4, .ref qb), (3, .ref qo), (1, .int (1 : Int32)), (0, .ref b), (2, .int (0 : Int32))]) (K : ∀ (st1 : St) (G1 : LG) (hs1 : Nat → LG) (k1 : Nat) (H : Heap) (locs : List Loc) (ls : Array Slot), R st1 G1 hs1 k1 → va_P D vwCl ([(r, .inr (9, [.int sd])), (a, .inr (10, [.int (nI (shZ G 0)), .int (nI (shZ G 1)), .int (shI G 0), .int (shI G 1), .int (shI G 2), .ref qP, .ref qU, .ref qH, .ref qG, vT, .ref qV])), (qU, .inl (cy 0, (shZ G 2), .inl (shP G))), (qG, .inl (cy 8, (shZ G 4), .inr (.inr (.inr (.inr (fun i => some (rG i))))))), (qV, .inl (cy 2, 4, .inr (.inl va))), (qB, .inl (cy 9, 9, .inr (.inr (.inr (.inr bf)))))] ++ (CW cy u qo st1 ++ (rl (shZ G 4) rG (fun i => guestE (shG G i)) ++ Z))) H → va_D (fun q => s.heap.size ≤ q) ([(r, .inr (9, [.int sd])), (a, .inr (10, [.int (nI (shZ G 0)), .int (nI (shZ G 1)), .int (shI G 0), .int (shI G 1), .int (shI G 2), .ref qP, .ref qU, .ref qH, .ref qG, vT, .ref qV])), (qU, .inl (cy 0, (shZ G 2), .inl (shP G))), (qG, .inl (cy 8, (shZ G 4), .inr (.inr (.inr (.inr (fun i => some (rG i))))))), (qV, .inl (cy 2, 4, .inr (.inl va))), (qB, .inl (cy 9, 9, .inr (.inr (.inr (.inr bf)))))] ++ (CW cy u qo st1 ++ (rl (shZ G 4) rG (fun i => guestE (shG G i)) ++ Z))) → va_S (fun q => s.heap.size ≤ q) s.heap H locs → lv_has ls 23 [(7, .ref qB), (6, .ref a), (5, .ref r), (4, .ref qb), (3, .ref qo), (1, .int (1 : Int32)), (0, .ref b), (2, .int (0 : Int32))] → W p l e room_1 s m #[Value.ref b] below meth c H locs (c0 + 200) (s0 + 5000) QQ (F0 m 862 ls [])) : W p l e room_1 s m #[Value.ref b] below meth c H locs c0 s0 QQ (F0 m 810 ls []) := by
  obtain ⟨hx, hb, hml, hown, hts, hX, hbl, hEZ, hst⟩ := id C
  obtain ⟨⟨hEL, hDig, hVar, hNest⟩, hEW, hEH⟩ := id hEZ
  have hE := hEL.1
  have hL := hEL.2
  have hK := hE.1
  have hA : ∀ q : Nat, s.heap.size ≤ q → (fun q : Nat => s.heap.size ≤ q) q := fun _ h => h
  have inJ0 : ∀ w ∈ wsJ00, w ∈ wsL_law := by decide +kernel
  obtain ⟨n1, n2, n3, n4, n5, n6, n7, n8, n9, n10, n11, n12, n13, n14⟩ := id hN
  refine lv_iconst (v := 0) hx hb dL_law_810 (by decide) ?_
  refine lv_istore (lv' := [(9, .int (0 : Int32)), (8, .int (nI dn)), (7, .ref qB), (6, .ref a), (5, .ref r), (4, .ref qb), (3, .ref qo), (1, .int (1 : Int32)), (0, .ref b), (2, .int (0 : Int32))]) hx hb dL_law_811 hl (by decide) rfl (fun ls hl => ?_)
  have J : ∀ (i j k1 : Nat) (st1 : St) (H : Heap) (locs : List Loc) (ls : Array Slot), 8 - j < i → j ≤ 8 → j ≤ dn → min dn 8 ≤ k1 + j → (∃ G1, R st1 G1 (fun x => hs (j + x)) k1) → va_P D vwCl ([(r, .inr (9, [.int sd])), (a, .inr (10, [.int (nI (shZ G 0)), .int (nI (shZ G 1)), .int (shI G 0), .int (shI G 1), .int (shI G 2), .ref qP, .ref qU, .ref qH, .ref qG, vT, .ref qV])), (qU, .inl (cy 0, (shZ G 2), .inl (shP G))), (qG, .inl (cy 8, (shZ G 4), .inr (.inr (.inr (.inr (fun i => some (rG i))))))), (qV, .inl (cy 2, 4, .inr (.inl va))), (qB, .inl (cy 9, 9, .inr (.inr (.inr (.inr bf)))))] ++ (CW cy u qo st1 ++ (rl (shZ G 4) rG (fun i => guestE (shG G i)) ++ Z))) H → va_D (fun q => s.heap.size ≤ q) ([(r, .inr (9, [.int sd])), (a, .inr (10, [.int (nI (shZ G 0)), .int (nI (shZ G 1)), .int (shI G 0), .int (shI G 1), .int (shI G 2), .ref qP, .ref qU, .ref qH, .ref qG, vT, .ref qV])), (qU, .inl (cy 0, (shZ G 2), .inl (shP G))), (qG, .inl (cy 8, (shZ G 4), .inr (.inr (.inr (.inr (fun i => some (rG i))))))), (qV, .inl (cy 2, 4, .inr (.inl va))), (qB, .inl (cy 9, 9, .inr (.inr (.inr (.inr bf)))))] ++ (CW cy u qo st1 ++ (rl (shZ G 4) rG (fun i => guestE (shG G i)) ++ Z))) → va_S (fun q => s.heap.size ≤ q) s.heap H locs → lv_has ls 23 [(9, .int (nI j)), (8, .int (nI dn)), (7, .ref qB), (6, .ref a), (5, .ref r), (4, .ref qb), (3, .ref qo), (1, .int (1 : Int32)), (0, .ref b), (2, .int (0 : Int32))] → W p l e room_1 s m #[Value.ref b] below meth c H locs (c0 + 24 * j) (s0 + 544 * j) QQ (F0 m 813 ls []) := by
    intro i
    induction i with
    | zero => intro j k1 st1 H locs ls h1; omega
    | succ i ih =>
      intro j k1 st1 H locs ls h1 h2 h3 h4 hR hP hD hS hl
      refine lv_iload hx hb dL_law_813 (lv_at hl 0 rfl) ?_
      refine lv_bipush (v := 8) hx hb dL_law_815 (by decide) ?_
      by_cases hj8 : j < 8
      · skip
        refine lv_icmp_ge (tgt := 862) hx hb dL_law_817 (by decide) (fun hbr1 => absurd hbr1 (nI_ge (a := j) (b := 8) hj8 (by decide))) (fun _ => ?_)
        refine lv_iload hx hb dL_law_820 (lv_at hl 0 rfl) ?_
        refine lv_iload hx hb dL_law_822 (lv_at hl 1 rfl) ?_
        by_cases hjd : j < dn
        · skip
          refine lv_icmp_ge (tgt := 862) hx hb dL_law_824 (by decide) (fun hbr2 => absurd hbr2 (nI_ge hjd (by omega))) (fun _ => ?_)
          refine lv_iload_n hx hb dL_law_827 rfl (lv_at hl 7 rfl) ?_
          refine lv_if_eq (tgt := 862) hx hb dL_law_828 (by decide) (fun hbr3 => absurd hbr3 ((by decide : ¬ ((1 : Int32) = 0)))) (fun _ => ?_)
          obtain ⟨G1, hR1⟩ := hR
          obtain ⟨k2, rfl⟩ : ∃ z, k1 = z + 1 := ⟨k1 - 1, by omega⟩
          obtain ⟨st2, hO, hR2⟩ := n10 st1 G1 _ k2 hR1
          skip
          refine lv_aload_n hx hb dL_law_831 rfl (lv_at hl 6 rfl) ?_
          refine wq_undo C hO hP hD hS hl dL_law_832 (by omega) (by omega) (fun H locs hP hD hS => ?_)
          have hP : va_P D vwCl ([(r, .inr (9, [.int sd])), (a, .inr (10, [.int (nI (shZ G 0)), .int (nI (shZ G 1)), .int (shI G 0), .int (shI G 1), .int (shI G 2), .ref qP, .ref qU, .ref qH, .ref qG, vT, .ref qV])), (qU, .inl (cy 0, (shZ G 2), .inl (shP G))), (qG, .inl (cy 8, (shZ G 4), .inr (.inr (.inr (.inr (fun i => some (rG i))))))), (qV, .inl (cy 2, 4, .inr (.inl va))), (qB, .inl (cy 9, 9, .inr (.inr (.inr (.inr bf)))))] ++ (CW cy u qo st2 ++ (rl (shZ G 4) rG (fun i => guestE (shG G i)) ++ Z))) H := hP
          have hD : va_D (fun q => s.heap.size ≤ q) ([(r, .inr (9, [.int sd])), (a, .inr (10, [.int (nI (shZ G 0)), .int (nI (shZ G 1)), .int (shI G 0), .int (shI G 1), .int (shI G 2), .ref qP, .ref qU, .ref qH, .ref qG, vT, .ref qV])), (qU, .inl (cy 0, (shZ G 2), .inl (shP G))), (qG, .inl (cy 8, (shZ G 4), .inr (.inr (.inr (.inr (fun i => some (rG i))))))), (qV, .inl (cy 2, 4, .inr (.inl va))), (qB, .inl (cy 9, 9, .inr (.inr (.inr (.inr bf)))))] ++ (CW cy u qo st2 ++ (rl (shZ G 4) rG (fun i => guestE (shG G i)) ++ Z))) := hD
          refine lv_if_lt (tgt := 854) hx hb dL_law_835 (by decide) (fun hbr4 => absurd hbr4 (nI_pos (by have := n15 _ _ _ _ hR1; omega))) (fun _ => ?_)
          refine lv_aload_n hx hb dL_law_838 rfl (lv_at hl 6 rfl) ?_
          refine lv_aload hx hb dL_law_839 (lv_at hl 2 rfl) ?_
          refine lv_iload hx hb dL_law_841 (lv_at hl 0 rfl) ?_
          obtain ⟨a9, qV9, qP9, qU9, qH9, qG9, vT9, rP9, rH9, rG9, rL9, rN9, e1, e2, e3, e4, e5, e6⟩ := hG j hjd hj8
          refine va_aldq hx hb hK hP 5 9 rfl rfl (vp_in_nI (by omega) (by omega)) dL_law_843 ?_
          rw [nI_clamp (by omega), e1]
          show W p l e room_1 s m #[Value.ref b] below meth c H _ (c0 + 24 * j) (s0 + 544 * j) QQ (F0 m 844 ls [.ref a9, .ref qo])
          have hm : ∀ z ∈ Z, z ∈ [(r, .inr (9, [.int sd])), (a, .inr (10, [.int (nI (shZ G 0)), .int (nI (shZ G 1)), .int (shI G 0), .int (shI G 1), .int (shI G 2), .ref qP, .ref qU, .ref qH, .ref qG, vT, .ref qV])), (qU, .inl (cy 0, (shZ G 2), .inl (shP G))), (qG, .inl (cy 8, (shZ G 4), .inr (.inr (.inr (.inr (fun i => some (rG i))))))), (qV, .inl (cy 2, 4, .inr (.inl va))), (qB, .inl (cy 9, 9, .inr (.inr (.inr (.inr bf)))))] ++ (rl (shZ G 4) rG (fun i => guestE (shG G i)) ++ Z) := fun z hz => List.mem_append_right _ (List.mem_append_right _ hz)
          have hO2 := n1 _ _ _ _ hR2
          refine wq_agrees C hO2 (fun U hU hW => ⟨env_at (EN_ok D cy) hE hD hS hA hW, qP9, qU9, qH9, qG9, vT9, rP9, rH9, rG9, rL9, rN9, GF_of hts inJ0 hK hW (ro_mid hP hD) (e2.mono hm) (hm _ e3) (hm _ e4) (hm _ e5) (fun x hx9 => hm _ (e6 x hx9))⟩) hP hD hS hl dL_law_844 (by omega) (by omega) (fun H locs hP hD hS => ?_)
          have hP : va_P D vwCl ([(r, .inr (9, [.int sd])), (a, .inr (10, [.int (nI (shZ G 0)), .int (nI (shZ G 1)), .int (shI G 0), .int (shI G 1), .int (shI G 2), .ref qP, .ref qU, .ref qH, .ref qG, vT, .ref qV])), (qU, .inl (cy 0, (shZ G 2), .inl (shP G))), (qG, .inl (cy 8, (shZ G 4), .inr (.inr (.inr (.inr (fun i => some (rG i))))))), (qV, .inl (cy 2, 4, .inr (.inl va))), (qB, .inl (cy 9, 9, .inr (.inr (.inr (.inr bf)))))] ++ (CW cy u qo st2 ++ (rl (shZ G 4) rG (fun i => guestE (shG G i)) ++ Z))) H := hP
          have hD : va_D (fun q => s.heap.size ≤ q) ([(r, .inr (9, [.int sd])), (a, .inr (10, [.int (nI (shZ G 0)), .int (nI (shZ G 1)), .int (shI G 0), .int (shI G 1), .int (shI G 2), .ref qP, .ref qU, .ref qH, .ref qG, vT, .ref qV])), (qU, .inl (cy 0, (shZ G 2), .inl (shP G))), (qG, .inl (cy 8, (shZ G 4), .inr (.inr (.inr (.inr (fun i => some (rG i))))))), (qV, .inl (cy 2, 4, .inr (.inl va))), (qB, .inl (cy 9, 9, .inr (.inr (.inr (.inr bf)))))] ++ (CW cy u qo st2 ++ (rl (shZ G 4) rG (fun i => guestE (shG G i)) ++ Z))) := hD
          refine lv_if_eq (tgt := 854) hx hb dL_law_847 (by decide) (fun hbr5 => absurd hbr5 ((by decide : ¬ ((1 : Int32) = 0)))) (fun _ => ?_)
          refine lv_iconst (v := 1) hx hb dL_law_850 (by decide) ?_
          refine lv_goto (tgt := 855) hx hb dL_law_851 (by decide) ?_
          refine lv_istore_n (lv' := [(1, .int (1 : Int32)), (9, .int (nI j)), (8, .int (nI dn)), (7, .ref qB), (6, .ref a), (5, .ref r), (4, .ref qb), (3, .ref qo), (0, .ref b), (2, .int (0 : Int32))]) hx hb dL_law_855 rfl hl (by decide) rfl (fun ls hl => ?_)
          refine lv_iinc (v := (nI (j + 1))) (lv' := [(9, .int (nI (j + 1))), (1, .int (1 : Int32)), (8, .int (nI dn)), (7, .ref qB), (6, .ref a), (5, .ref r), (4, .ref qb), (3, .ref qo), (0, .ref b), (2, .int (0 : Int32))]) hx hb dL_law_856 hl (k := 1) rfl (by rw [nI_succ]; rfl) (by decide) rfl (fun ls hl => ?_)
          refine lv_goto (tgt := 813) hx hb dL_law_859 (by decide) ?_
          refine W.widen (k := c0 + 24 * (j + 1)) (n := s0 + 544 * (j + 1)) (by omega) (by omega) ?_
          exact ih (j + 1) k2 st2 H _ ls (by omega) (by omega) (by omega) (by omega) ⟨_, by have e8 : (fun x => hs (j + 1 + x)) = (fun x => hs (j + (x + 1))) := (by funext x; rw [show j + 1 + x = j + (x + 1) by omega]); rw [e8]; exact hR2⟩ hP hD hS (lv_sub hl [0, 2, 3, 4, 5, 6, 7, 1, 8, 9] rfl)
        · skip
          refine lv_icmp_ge (tgt := 862) hx hb dL_law_824 (by decide) (fun _ => ?_) (fun hbr2 => absurd (nI_le (by omega) (by omega)) hbr2)
          refine W.widen (k := c0 + 200) (n := s0 + 5000) (by omega) (by omega) ?_
          obtain ⟨G1, hR1⟩ := hR
          refine W.widen (k := c0 + 200) (n := s0 + 5000) (by omega) (by omega) ?_
          exact K st1 G1 _ _ H _ ls hR1 hP hD hS (lv_sub hl [2, 3, 4, 5, 6, 7, 8, 9] rfl)
      · skip
        refine lv_icmp_ge (tgt := 862) hx hb dL_law_817 (by decide) (fun _ => ?_) (fun hbr1 => absurd (nI_le (a := 8) (b := j) (by omega) (by omega)) hbr1)
        obtain ⟨G1, hR1⟩ := hR
        refine W.widen (k := c0 + 200) (n := s0 + 5000) (by omega) (by omega) ?_
        exact K st1 G1 _ _ H _ ls hR1 hP hD hS (lv_sub hl [2, 3, 4, 5, 6, 7, 8, 9] rfl)
  refine W.widen (k := c0 + 24 * 0) (n := s0 + 544 * 0) (by omega) (by omega) ?_
  exact J 9 0 k st H _ ls (by decide) (by decide) (by omega) (by omega) ⟨G, by have e8 : (fun x => hs (0 + x)) = hs := (by funext x; rw [Nat.zero_add]); rw [e8]; exact hR⟩ hP hD hS (lv_sub hl [0, 1, 2, 3, 4, 5, 6, 7, 8, 9] rfl)
set_option maxHeartbeats 1200000 in
set_option maxRecDepth 100000 in
theorem law_fin {p : Program} {l : Launch} {e : Env} {s : State} {m : MethodId} {below : List Frame} {meth : Method} {c : Code} {b L : Nat} {xs : Nat → Int32} {D : va_G} {cy : Nat → ClassId} {ad : Nat → Nat} {QQ : State → Prop} {u : Nat → Nat} {qo qb r a : Nat} {qP qU qH qG qV qB : Nat} {vT : Value} {rP rH rG : Nat → Nat} {rL : Nat → Nat → Nat} {rN : Nat → Nat} {va : Nat → Int64} {bf : Nat → Option Nat} {Z : va_W} {st : St} {G : LG} {sd : Int32} {c0 s0 : Nat} {st1 : St} {G1 : LG} {hs1 : Nat → LG} {k1 : Nat} (C : LCx p l s m c b L xs D cy ad) {R : St → LG → (Nat → LG) → Nat → Prop} (hN : NumOK R) (hR : R st1 G1 hs1 k1) (hc0 : c0 + 1000 ≤ 600086) (hs0 : s0 + 10000 ≤ 7301442) {H : Heap} {locs : List Loc} {ls : Array Slot} (hP : va_P D vwCl ([(r, .inr (9, [.int sd])), (a, .inr (10, [.int (nI (shZ G 0)), .int (nI (shZ G 1)), .int (shI G 0), .int (shI G 1), .int (shI G 2), .ref qP, .ref qU, .ref qH, .ref qG, vT, .ref qV])), (qU, .inl (cy 0, (shZ G 2), .inl (shP G))), (qG, .inl (cy 8, (shZ G 4), .inr (.inr (.inr (.inr (fun i => some (rG i))))))), (qV, .inl (cy 2, 4, .inr (.inl va))), (qB, .inl (cy 9, 9, .inr (.inr (.inr (.inr bf)))))] ++ (CW cy u qo st1 ++ (rl (shZ G 4) rG (fun i => guestE (shG G i)) ++ Z))) H) (hD : va_D (fun q => s.heap.size ≤ q) ([(r, .inr (9, [.int sd])), (a, .inr (10, [.int (nI (shZ G 0)), .int (nI (shZ G 1)), .int (shI G 0), .int (shI G 1), .int (shI G 2), .ref qP, .ref qU, .ref qH, .ref qG, vT, .ref qV])), (qU, .inl (cy 0, (shZ G 2), .inl (shP G))), (qG, .inl (cy 8, (shZ G 4), .inr (.inr (.inr (.inr (fun i => some (rG i))))))), (qV, .inl (cy 2, 4, .inr (.inl va))), (qB, .inl (cy 9, 9, .inr (.inr (.inr (.inr bf)))))] ++ (CW cy u qo st1 ++ (rl (shZ G 4) rG (fun i => guestE (shG G i)) ++ Z)))) (hS : va_S (fun q => s.heap.size ≤ q) s.heap H locs) (hl : lv_has ls 23 [(7, .ref qB), (6, .ref a), (5, .ref r), (4, .ref qb), (3, .ref qo), (1, .int (1 : Int32)), (0, .ref b), (2, .int (0 : Int32))]) (K : ∀ (H : Heap) (locs : List Loc) (ls : Array Slot), va_S (fun q => s.heap.size ≤ q) s.heap H locs → lv_has ls 23 [(1, .int (1 : Int32))] → W p l e room_1 s m #[Value.ref b] below meth c H locs (c0 + 8) (s0 + 48) QQ (F0 m 973 ls [])) : W p l e room_1 s m #[Value.ref b] below meth c H locs c0 s0 QQ (F0 m 862 ls []) := by
  obtain ⟨hx, hb, hml, hown, hts, hX, hbl, hEZ, hst⟩ := id C
  obtain ⟨⟨hEL, hDig, hVar, hNest⟩, hEW, hEH⟩ := id hEZ
  have hE := hEL.1
  have hL := hEL.2
  have hK := hE.1
  have hA : ∀ q : Nat, s.heap.size ≤ q → (fun q : Nat => s.heap.size ≤ q) q := fun _ h => h
  have c42 := hts (.constant RL 42 (-2000000098)) (by decide +kernel)
  have c52 := hts (.constant RL 52 (-2000000097)) (by decide +kernel)
  obtain ⟨n1, n2, n3, n4, n5, n6, n7, n8, n9, n10, n11, n12, n13, n14⟩ := id hN
  obtain ⟨f1, f2, f3, f4, f5, f6, f7, f8⟩ := n13 _ _ _ _ hR
  refine lv_iload_n hx hb dL_law_862 rfl (lv_at hl 5 rfl) ?_
  refine lv_if_eq (tgt := 965) hx hb dL_law_863 (by decide) (fun hbr1 => absurd hbr1 ((by decide : ¬ ((1 : Int32) = 0)))) (fun _ => ?_)
  refine lv_aload_n hx hb dL_law_866 rfl (lv_at hl 4 rfl) ?_
  refine lv_sipush (v := 801) hx hb dL_law_867 (by decide) ?_
  refine wq_load C f1 hP hD hS hl dL_law_870 (by omega) (by omega) (fun H locs hP hD hS => ?_)
  have hP : va_P D vwCl ([(r, .inr (9, [.int sd])), (a, .inr (10, [.int (nI (shZ G 0)), .int (nI (shZ G 1)), .int (shI G 0), .int (shI G 1), .int (shI G 2), .ref qP, .ref qU, .ref qH, .ref qG, vT, .ref qV])), (qU, .inl (cy 0, (shZ G 2), .inl (shP G))), (qG, .inl (cy 8, (shZ G 4), .inr (.inr (.inr (.inr (fun i => some (rG i))))))), (qV, .inl (cy 2, 4, .inr (.inl va))), (qB, .inl (cy 9, 9, .inr (.inr (.inr (.inr bf)))))] ++ (CW cy u qo st1 ++ (rl (shZ G 4) rG (fun i => guestE (shG G i)) ++ Z))) H := hP
  have hD : va_D (fun q => s.heap.size ≤ q) ([(r, .inr (9, [.int sd])), (a, .inr (10, [.int (nI (shZ G 0)), .int (nI (shZ G 1)), .int (shI G 0), .int (shI G 1), .int (shI G 2), .ref qP, .ref qU, .ref qH, .ref qG, vT, .ref qV])), (qU, .inl (cy 0, (shZ G 2), .inl (shP G))), (qG, .inl (cy 8, (shZ G 4), .inr (.inr (.inr (.inr (fun i => some (rG i))))))), (qV, .inl (cy 2, 4, .inr (.inl va))), (qB, .inl (cy 9, 9, .inr (.inr (.inr (.inr bf)))))] ++ (CW cy u qo st1 ++ (rl (shZ G 4) rG (fun i => guestE (shG G i)) ++ Z))) := hD
  refine lv_ldc (v := -2000000098) hx hb hown c42 dL_law_873 ?_
  refine lv_icmp_ne (tgt := 965) hx hb dL_law_875 (by decide) (fun hbr2 => absurd (rfl) hbr2) (fun _ => ?_)
  refine lv_aload_n hx hb dL_law_878 rfl (lv_at hl 4 rfl) ?_
  refine lv_iconst (v := 0) hx hb dL_law_879 (by decide) ?_
  refine lv_iconst (v := -1) hx hb dL_law_880 (by decide) ?_
  refine lv_iconst (v := 0) hx hb dL_law_881 (by decide) ?_
  refine wq_stands C f2 hP hD hS hl dL_law_882 (by omega) (by omega) (fun H locs hP hD hS => ?_)
  have hP : va_P D vwCl ([(r, .inr (9, [.int sd])), (a, .inr (10, [.int (nI (shZ G 0)), .int (nI (shZ G 1)), .int (shI G 0), .int (shI G 1), .int (shI G 2), .ref qP, .ref qU, .ref qH, .ref qG, vT, .ref qV])), (qU, .inl (cy 0, (shZ G 2), .inl (shP G))), (qG, .inl (cy 8, (shZ G 4), .inr (.inr (.inr (.inr (fun i => some (rG i))))))), (qV, .inl (cy 2, 4, .inr (.inl va))), (qB, .inl (cy 9, 9, .inr (.inr (.inr (.inr bf)))))] ++ (CW cy u qo st1 ++ (rl (shZ G 4) rG (fun i => guestE (shG G i)) ++ Z))) H := hP
  have hD : va_D (fun q => s.heap.size ≤ q) ([(r, .inr (9, [.int sd])), (a, .inr (10, [.int (nI (shZ G 0)), .int (nI (shZ G 1)), .int (shI G 0), .int (shI G 1), .int (shI G 2), .ref qP, .ref qU, .ref qH, .ref qG, vT, .ref qV])), (qU, .inl (cy 0, (shZ G 2), .inl (shP G))), (qG, .inl (cy 8, (shZ G 4), .inr (.inr (.inr (.inr (fun i => some (rG i))))))), (qV, .inl (cy 2, 4, .inr (.inl va))), (qB, .inl (cy 9, 9, .inr (.inr (.inr (.inr bf)))))] ++ (CW cy u qo st1 ++ (rl (shZ G 4) rG (fun i => guestE (shG G i)) ++ Z))) := hD
  refine lv_ldc (v := -2000000097) hx hb hown c52 dL_law_885 ?_
  refine lv_icmp_ne (tgt := 965) hx hb dL_law_887 (by decide) (fun hbr3 => absurd (rfl) hbr3) (fun _ => ?_)
  refine lv_aload_n hx hb dL_law_890 rfl (lv_at hl 4 rfl) ?_
  refine lv_iconst (v := 4) hx hb dL_law_891 (by decide) ?_
  refine lv_iconst (v := 0) hx hb dL_law_892 (by decide) ?_
  refine lv_iconst (v := 0) hx hb dL_law_893 (by decide) ?_
  refine wq_sees C f3 hP hD hS hl dL_law_894 (by omega) (by omega) (fun H locs hP hD hS => ?_)
  have hP : va_P D vwCl ([(r, .inr (9, [.int sd])), (a, .inr (10, [.int (nI (shZ G 0)), .int (nI (shZ G 1)), .int (shI G 0), .int (shI G 1), .int (shI G 2), .ref qP, .ref qU, .ref qH, .ref qG, vT, .ref qV])), (qU, .inl (cy 0, (shZ G 2), .inl (shP G))), (qG, .inl (cy 8, (shZ G 4), .inr (.inr (.inr (.inr (fun i => some (rG i))))))), (qV, .inl (cy 2, 4, .inr (.inl va))), (qB, .inl (cy 9, 9, .inr (.inr (.inr (.inr bf)))))] ++ (CW cy u qo st1 ++ (rl (shZ G 4) rG (fun i => guestE (shG G i)) ++ Z))) H := hP
  have hD : va_D (fun q => s.heap.size ≤ q) ([(r, .inr (9, [.int sd])), (a, .inr (10, [.int (nI (shZ G 0)), .int (nI (shZ G 1)), .int (shI G 0), .int (shI G 1), .int (shI G 2), .ref qP, .ref qU, .ref qH, .ref qG, vT, .ref qV])), (qU, .inl (cy 0, (shZ G 2), .inl (shP G))), (qG, .inl (cy 8, (shZ G 4), .inr (.inr (.inr (.inr (fun i => some (rG i))))))), (qV, .inl (cy 2, 4, .inr (.inl va))), (qB, .inl (cy 9, 9, .inr (.inr (.inr (.inr bf)))))] ++ (CW cy u qo st1 ++ (rl (shZ G 4) rG (fun i => guestE (shG G i)) ++ Z))) := hD
  refine lv_ldc (v := -2000000097) hx hb hown c52 dL_law_897 ?_
  refine lv_icmp_ne (tgt := 965) hx hb dL_law_899 (by decide) (fun hbr4 => absurd (rfl) hbr4) (fun _ => ?_)
  refine lv_aload_n hx hb dL_law_902 rfl (lv_at hl 4 rfl) ?_
  refine lv_iconst (v := -1) hx hb dL_law_903 (by decide) ?_
  refine lv_iconst (v := 0) hx hb dL_law_904 (by decide) ?_
  refine wq_shown C f4 hP hD hS hl dL_law_905 (by omega) (by omega) (fun H locs hP hD hS => ?_)
  have hP : va_P D vwCl ([(r, .inr (9, [.int sd])), (a, .inr (10, [.int (nI (shZ G 0)), .int (nI (shZ G 1)), .int (shI G 0), .int (shI G 1), .int (shI G 2), .ref qP, .ref qU, .ref qH, .ref qG, vT, .ref qV])), (qU, .inl (cy 0, (shZ G 2), .inl (shP G))), (qG, .inl (cy 8, (shZ G 4), .inr (.inr (.inr (.inr (fun i => some (rG i))))))), (qV, .inl (cy 2, 4, .inr (.inl va))), (qB, .inl (cy 9, 9, .inr (.inr (.inr (.inr bf)))))] ++ (CW cy u qo st1 ++ (rl (shZ G 4) rG (fun i => guestE (shG G i)) ++ Z))) H := hP
  have hD : va_D (fun q => s.heap.size ≤ q) ([(r, .inr (9, [.int sd])), (a, .inr (10, [.int (nI (shZ G 0)), .int (nI (shZ G 1)), .int (shI G 0), .int (shI G 1), .int (shI G 2), .ref qP, .ref qU, .ref qH, .ref qG, vT, .ref qV])), (qU, .inl (cy 0, (shZ G 2), .inl (shP G))), (qG, .inl (cy 8, (shZ G 4), .inr (.inr (.inr (.inr (fun i => some (rG i))))))), (qV, .inl (cy 2, 4, .inr (.inl va))), (qB, .inl (cy 9, 9, .inr (.inr (.inr (.inr bf)))))] ++ (CW cy u qo st1 ++ (rl (shZ G 4) rG (fun i => guestE (shG G i)) ++ Z))) := hD
  refine lv_ldc (v := -2000000097) hx hb hown c52 dL_law_908 ?_
  refine lv_icmp_ne (tgt := 965) hx hb dL_law_910 (by decide) (fun hbr5 => absurd (rfl) hbr5) (fun _ => ?_)
  refine lv_aload_n hx hb dL_law_913 rfl (lv_at hl 4 rfl) ?_
  refine lv_iconst (v := 0) hx hb dL_law_914 (by decide) ?_
  refine lv_iconst (v := 5) hx hb dL_law_915 (by decide) ?_
  refine lv_iconst (v := 0) hx hb dL_law_916 (by decide) ?_
  refine lv_iconst (v := 0) hx hb dL_law_917 (by decide) ?_
  refine wq_why C f5 hP hD hS hl dL_law_918 (by omega) (by omega) (fun H locs hP hD hS => ?_)
  have hP : va_P D vwCl ([(r, .inr (9, [.int sd])), (a, .inr (10, [.int (nI (shZ G 0)), .int (nI (shZ G 1)), .int (shI G 0), .int (shI G 1), .int (shI G 2), .ref qP, .ref qU, .ref qH, .ref qG, vT, .ref qV])), (qU, .inl (cy 0, (shZ G 2), .inl (shP G))), (qG, .inl (cy 8, (shZ G 4), .inr (.inr (.inr (.inr (fun i => some (rG i))))))), (qV, .inl (cy 2, 4, .inr (.inl va))), (qB, .inl (cy 9, 9, .inr (.inr (.inr (.inr bf)))))] ++ (CW cy u qo st1 ++ (rl (shZ G 4) rG (fun i => guestE (shG G i)) ++ Z))) H := hP
  have hD : va_D (fun q => s.heap.size ≤ q) ([(r, .inr (9, [.int sd])), (a, .inr (10, [.int (nI (shZ G 0)), .int (nI (shZ G 1)), .int (shI G 0), .int (shI G 1), .int (shI G 2), .ref qP, .ref qU, .ref qH, .ref qG, vT, .ref qV])), (qU, .inl (cy 0, (shZ G 2), .inl (shP G))), (qG, .inl (cy 8, (shZ G 4), .inr (.inr (.inr (.inr (fun i => some (rG i))))))), (qV, .inl (cy 2, 4, .inr (.inl va))), (qB, .inl (cy 9, 9, .inr (.inr (.inr (.inr bf)))))] ++ (CW cy u qo st1 ++ (rl (shZ G 4) rG (fun i => guestE (shG G i)) ++ Z))) := hD
  refine lv_ldc (v := -2000000097) hx hb hown c52 dL_law_921 ?_
  refine lv_icmp_ne (tgt := 965) hx hb dL_law_923 (by decide) (fun hbr6 => absurd (rfl) hbr6) (fun _ => ?_)
  refine lv_aload_n hx hb dL_law_926 rfl (lv_at hl 4 rfl) ?_
  refine lv_bipush (v := 20) hx hb dL_law_927 (by decide) ?_
  refine lv_iconst (v := 0) hx hb dL_law_929 (by decide) ?_
  refine wq_price C f6 hP hD hS hl dL_law_930 (by omega) (by omega) (fun H locs hP hD hS => ?_)
  have hP : va_P D vwCl ([(r, .inr (9, [.int sd])), (a, .inr (10, [.int (nI (shZ G 0)), .int (nI (shZ G 1)), .int (shI G 0), .int (shI G 1), .int (shI G 2), .ref qP, .ref qU, .ref qH, .ref qG, vT, .ref qV])), (qU, .inl (cy 0, (shZ G 2), .inl (shP G))), (qG, .inl (cy 8, (shZ G 4), .inr (.inr (.inr (.inr (fun i => some (rG i))))))), (qV, .inl (cy 2, 4, .inr (.inl va))), (qB, .inl (cy 9, 9, .inr (.inr (.inr (.inr bf)))))] ++ (CW cy u qo st1 ++ (rl (shZ G 4) rG (fun i => guestE (shG G i)) ++ Z))) H := hP
  have hD : va_D (fun q => s.heap.size ≤ q) ([(r, .inr (9, [.int sd])), (a, .inr (10, [.int (nI (shZ G 0)), .int (nI (shZ G 1)), .int (shI G 0), .int (shI G 1), .int (shI G 2), .ref qP, .ref qU, .ref qH, .ref qG, vT, .ref qV])), (qU, .inl (cy 0, (shZ G 2), .inl (shP G))), (qG, .inl (cy 8, (shZ G 4), .inr (.inr (.inr (.inr (fun i => some (rG i))))))), (qV, .inl (cy 2, 4, .inr (.inl va))), (qB, .inl (cy 9, 9, .inr (.inr (.inr (.inr bf)))))] ++ (CW cy u qo st1 ++ (rl (shZ G 4) rG (fun i => guestE (shG G i)) ++ Z))) := hD
  refine lv_ldc (v := -2000000097) hx hb hown c52 dL_law_933 ?_
  refine lv_icmp_ne (tgt := 965) hx hb dL_law_935 (by decide) (fun hbr7 => absurd (rfl) hbr7) (fun _ => ?_)
  refine lv_aload_n hx hb dL_law_938 rfl (lv_at hl 4 rfl) ?_
  refine lv_iconst (v := -1) hx hb dL_law_939 (by decide) ?_
  refine lv_iconst (v := 0) hx hb dL_law_940 (by decide) ?_
  refine wq_bestPull C f7 hP hD hS hl dL_law_941 (by omega) (by omega) (fun H locs hP hD hS => ?_)
  have hP : va_P D vwCl ([(r, .inr (9, [.int sd])), (a, .inr (10, [.int (nI (shZ G 0)), .int (nI (shZ G 1)), .int (shI G 0), .int (shI G 1), .int (shI G 2), .ref qP, .ref qU, .ref qH, .ref qG, vT, .ref qV])), (qU, .inl (cy 0, (shZ G 2), .inl (shP G))), (qG, .inl (cy 8, (shZ G 4), .inr (.inr (.inr (.inr (fun i => some (rG i))))))), (qV, .inl (cy 2, 4, .inr (.inl va))), (qB, .inl (cy 9, 9, .inr (.inr (.inr (.inr bf)))))] ++ (CW cy u qo st1 ++ (rl (shZ G 4) rG (fun i => guestE (shG G i)) ++ Z))) H := hP
  have hD : va_D (fun q => s.heap.size ≤ q) ([(r, .inr (9, [.int sd])), (a, .inr (10, [.int (nI (shZ G 0)), .int (nI (shZ G 1)), .int (shI G 0), .int (shI G 1), .int (shI G 2), .ref qP, .ref qU, .ref qH, .ref qG, vT, .ref qV])), (qU, .inl (cy 0, (shZ G 2), .inl (shP G))), (qG, .inl (cy 8, (shZ G 4), .inr (.inr (.inr (.inr (fun i => some (rG i))))))), (qV, .inl (cy 2, 4, .inr (.inl va))), (qB, .inl (cy 9, 9, .inr (.inr (.inr (.inr bf)))))] ++ (CW cy u qo st1 ++ (rl (shZ G 4) rG (fun i => guestE (shG G i)) ++ Z))) := hD
  refine lv_ldc (v := -2000000097) hx hb hown c52 dL_law_944 ?_
  refine lv_icmp_ne (tgt := 965) hx hb dL_law_946 (by decide) (fun hbr8 => absurd (rfl) hbr8) (fun _ => ?_)
  refine lv_aload_n hx hb dL_law_949 rfl (lv_at hl 4 rfl) ?_
  refine lv_bipush (v := 101) hx hb dL_law_950 (by decide) ?_
  refine lv_iconst (v := 0) hx hb dL_law_952 (by decide) ?_
  refine wq_foretold C f8 hP hD hS hl dL_law_953 (by omega) (by omega) (fun H locs hP hD hS => ?_)
  have hP : va_P D vwCl ([(r, .inr (9, [.int sd])), (a, .inr (10, [.int (nI (shZ G 0)), .int (nI (shZ G 1)), .int (shI G 0), .int (shI G 1), .int (shI G 2), .ref qP, .ref qU, .ref qH, .ref qG, vT, .ref qV])), (qU, .inl (cy 0, (shZ G 2), .inl (shP G))), (qG, .inl (cy 8, (shZ G 4), .inr (.inr (.inr (.inr (fun i => some (rG i))))))), (qV, .inl (cy 2, 4, .inr (.inl va))), (qB, .inl (cy 9, 9, .inr (.inr (.inr (.inr bf)))))] ++ (CW cy u qo st1 ++ (rl (shZ G 4) rG (fun i => guestE (shG G i)) ++ Z))) H := hP
  have hD : va_D (fun q => s.heap.size ≤ q) ([(r, .inr (9, [.int sd])), (a, .inr (10, [.int (nI (shZ G 0)), .int (nI (shZ G 1)), .int (shI G 0), .int (shI G 1), .int (shI G 2), .ref qP, .ref qU, .ref qH, .ref qG, vT, .ref qV])), (qU, .inl (cy 0, (shZ G 2), .inl (shP G))), (qG, .inl (cy 8, (shZ G 4), .inr (.inr (.inr (.inr (fun i => some (rG i))))))), (qV, .inl (cy 2, 4, .inr (.inl va))), (qB, .inl (cy 9, 9, .inr (.inr (.inr (.inr bf)))))] ++ (CW cy u qo st1 ++ (rl (shZ G 4) rG (fun i => guestE (shG G i)) ++ Z))) := hD
  refine lv_ldc (v := -2000000098) hx hb hown c42 dL_law_956 ?_
  refine lv_icmp_ne (tgt := 965) hx hb dL_law_958 (by decide) (fun hbr9 => absurd (rfl) hbr9) (fun _ => ?_)
  refine lv_iconst (v := 1) hx hb dL_law_961 (by decide) ?_
  refine lv_goto (tgt := 966) hx hb dL_law_962 (by decide) ?_
  refine lv_istore_n (lv' := [(1, .int (1 : Int32)), (7, .ref qB), (6, .ref a), (5, .ref r), (4, .ref qb), (3, .ref qo), (0, .ref b), (2, .int (0 : Int32))]) hx hb dL_law_966 rfl hl (by decide) rfl (fun ls hl => ?_)
  refine lv_iinc (v := (1 : Int32)) (lv' := [(2, .int (1 : Int32)), (1, .int (1 : Int32)), (7, .ref qB), (6, .ref a), (5, .ref r), (4, .ref qb), (3, .ref qo), (0, .ref b)]) hx hb dL_law_967 hl (k := 7) rfl (by decide) (by decide) rfl (fun ls hl => ?_)
  refine lv_goto (tgt := 4) hx hb dL_law_970 (by decide) ?_
  refine lv_iload_n hx hb dL_law_4 rfl (lv_at hl 0 rfl) ?_
  refine lv_aload_n hx hb dL_law_5 rfl (lv_at hl 7 rfl) ?_
  refine va_slen hx hb hX hbl (Nat.not_le.mpr hbl) hS dL_law_6 ?_
  refine lv_icmp_ge (tgt := 973) hx hb dL_law_7 (by decide) (fun _ => ?_) (fun _ => ?_)
  · refine W.widen (k := c0 + 8) (n := s0 + 48) (by omega) (by omega) ?_; exact K H _ ls hS (lv_sub hl [1] rfl)
  · skip
    refine lv_iload_n hx hb dL_law_10 rfl (lv_at hl 0 rfl) ?_
    refine lv_iconst (v := 1) hx hb dL_law_11 (by decide) ?_
    refine lv_icmp_ge (tgt := 973) hx hb dL_law_12 (by decide) (fun _ => ?_) (fun hbr10 => absurd ((by decide : (1 : Int32) ≤ 1)) hbr10)
    refine W.widen (k := c0 + 8) (n := s0 + 48) (by omega) (by omega) ?_; exact K H _ ls hS (lv_sub hl [1] rfl)
