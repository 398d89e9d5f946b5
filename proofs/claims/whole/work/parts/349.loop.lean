/-! THE LAW: its loop -/
section OP
variable {p : Program} {l : Launch} {e : Env} {s : State} {m : MethodId} {below : List Frame} {meth : Method} {c : Code} {b L : Nat} {xs : Nat → Int32} {D : va_G} {cy : Nat → ClassId} {u v : Nat → Nat} {qo qx qout : Nat} {Q : State → Prop} {cells slots : Nat}
set_option maxHeartbeats 4000000 in
theorem law_op {st : St} {rf : Rf} {out : Nat → Int64} {H : Heap} {locs : List Loc} {ls : Array Slot} {i : Int32} (C : LC p l s m c b L xs D cy) (R : RAll st rf) (hP : va_P D vwCl (LW cy u v qo qx qout st rf out) H) (hD : va_D (fun q => s.heap.size ≤ q) (LW cy u v qo qx qout st rf out)) (hS : va_S (fun q => s.heap.size ≤ q) s.heap H locs) (hl : lv_has ls 9 [(4, .int i), (3, .ref qout), (2, .ref qx), (1, .ref qo), (0, .ref b)]) (hi0 : vp_in i L) (hi1 : vp_in (i + 1) L) (hi2 : vp_in (i + 2) L) (hi3 : vp_in (i + 3) L) (hi4 : vp_in (i + 4) L) (hi5 : vp_in (i + 5) L) (hc : cells + 1 ≤ room_1.cells) (hs : slots + 6 ≤ room_1.slots)
    (K : KE p l e s m below meth c b D cy u v qo qx qout Q i (cells + 1) (slots + 6)) : W p l e room_1 s m #[Value.ref b] below meth c H locs cells slots Q (F0 m 33 ls []) := by
  obtain ⟨hx, hb, -, -, -, hX, hbl, -, -⟩ := id C
  refine lv_aload_n hx hb dL_law_33 rfl (lv_at hl 4 rfl) ?_
  refine lv_iload hx hb dL_law_34 (lv_at hl 0 rfl) ?_
  refine lw_ld hx hb hX hbl hS hi0 rfl dL_law_36 ?_
  refine lv_bipush (v := 31) hx hb dL_law_37 (by decide) ?_
  refine lv_iand hx hb dL_law_39 ?_
  obtain ⟨j, hj, e⟩ : ∃ j : Nat, j < 32 ∧ xs i.toNatClampNeg &&& 31 = nI j := ⟨_, Nat.mod_lt _ (by omega), pk_and _ (m := 31) 5 (by decide)⟩
  rw [e]
  by_cases h : j < 22
  · rcases (show j = 0 ∨ j = 1 ∨ j = 2 ∨ j = 3 ∨ j = 4 ∨ j = 5 ∨ j = 6 ∨ j = 7 ∨ j = 8 ∨ j = 9 ∨ j = 10 ∨ j = 11 ∨ j = 12 ∨ j = 13 ∨ j = 14 ∨ j = 15 ∨ j = 16 ∨ j = 17 ∨ j = 18 ∨ j = 19 ∨ j = 20 ∨ j = 21 by omega) with rfl | rfl | rfl | rfl | rfl | rfl | rfl | rfl | rfl | rfl | rfl | rfl | rfl | rfl | rfl | rfl | rfl | rfl | rfl | rfl | rfl | rfl
    · refine lv_tableIn (off := 104) (tgt := 144) hx hb dL_law_40 (by decide +kernel) (by decide +kernel) (by decide +kernel) (by decide) ?_
      exact op_append C R hP hD hS hl hi1 hi2 hi3 hi4 hi5 rfl rfl rfl rfl rfl hc hs K
    · refine lv_tableIn (off := 177) (tgt := 217) hx hb dL_law_40 (by decide +kernel) (by decide +kernel) (by decide +kernel) (by decide) ?_
      exact op_load C R hP hD hS hl hi1 hi2 hi3 hi4 hi5 rfl rfl rfl rfl rfl hc hs K
    · refine lv_tableIn (off := 233) (tgt := 273) hx hb dL_law_40 (by decide +kernel) (by decide +kernel) (by decide +kernel) (by decide) ?_
      exact op_errorOffset C R hP hD hS hl hi1 hi2 hi3 hi4 hi5 rfl rfl rfl rfl rfl hc hs K
    · refine lv_tableIn (off := 246) (tgt := 286) hx hb dL_law_40 (by decide +kernel) (by decide +kernel) (by decide +kernel) (by decide) ?_
      exact op_state C R hP hD hS hl hi1 hi2 hi3 hi4 hi5 rfl rfl rfl rfl rfl hc hs K
    · refine lv_tableIn (off := 302) (tgt := 342) hx hb dL_law_40 (by decide +kernel) (by decide +kernel) (by decide +kernel) (by decide) ?_
      exact op_stands C R hP hD hS hl hi1 hi2 hi3 hi4 hi5 rfl rfl rfl rfl rfl hc hs K
    · refine lv_tableIn (off := 382) (tgt := 422) hx hb dL_law_40 (by decide +kernel) (by decide +kernel) (by decide +kernel) (by decide) ?_
      exact op_plane C R hP hD hS hl hi1 hi2 hi3 hi4 hi5 rfl rfl rfl rfl rfl hc hs K
    · refine lv_tableIn (off := 450) (tgt := 490) hx hb dL_law_40 (by decide +kernel) (by decide +kernel) (by decide +kernel) (by decide) ?_
      exact op_hole C R hP hD hS hl hi1 hi2 hi3 hi4 hi5 rfl rfl rfl rfl rfl hc hs K
    · refine lv_tableIn (off := 518) (tgt := 558) hx hb dL_law_40 (by decide +kernel) (by decide +kernel) (by decide +kernel) (by decide) ?_
      exact op_sees C R hP hD hS hl hi1 hi2 hi3 hi4 hi5 rfl rfl rfl rfl rfl hc hs K
    · refine lv_tableIn (off := 598) (tgt := 638) hx hb dL_law_40 (by decide +kernel) (by decide +kernel) (by decide +kernel) (by decide) ?_
      exact op_shown C R hP hD hS hl hi1 hi2 hi3 hi4 hi5 rfl rfl rfl rfl rfl hc hs K
    · refine lv_tableIn (off := 666) (tgt := 706) hx hb dL_law_40 (by decide +kernel) (by decide +kernel) (by decide +kernel) (by decide) ?_
      exact op_why C R hP hD hS hl hi1 hi2 hi3 hi4 hi5 rfl rfl rfl rfl rfl hc hs K
    · refine lv_tableIn (off := 758) (tgt := 798) hx hb dL_law_40 (by decide +kernel) (by decide +kernel) (by decide +kernel) (by decide) ?_
      exact op_viewer C R hP hD hS hl hi1 hi2 hi3 hi4 hi5 rfl rfl rfl rfl rfl hc hs K
    · refine lv_tableIn (off := 826) (tgt := 866) hx hb dL_law_40 (by decide +kernel) (by decide +kernel) (by decide +kernel) (by decide) ?_
      exact op_price C R hP hD hS hl hi1 hi2 hi3 hi4 hi5 rfl rfl rfl rfl rfl hc hs K
    · refine lv_tableIn (off := 894) (tgt := 934) hx hb dL_law_40 (by decide +kernel) (by decide +kernel) (by decide +kernel) (by decide) ?_
      exact op_bestPull C R hP hD hS hl hi1 hi2 hi3 hi4 hi5 rfl rfl rfl rfl rfl hc hs K
    · refine lv_tableIn (off := 962) (tgt := 1002) hx hb dL_law_40 (by decide +kernel) (by decide +kernel) (by decide +kernel) (by decide) ?_
      exact op_foretold C R hP hD hS hl hi1 hi2 hi3 hi4 hi5 rfl rfl rfl rfl rfl hc hs K
    · refine lv_tableIn (off := 1030) (tgt := 1070) hx hb dL_law_40 (by decide +kernel) (by decide +kernel) (by decide +kernel) (by decide) ?_
      exact op_emptyIn C R hP hD hS hl hi1 hi2 hi3 hi4 hi5 rfl rfl rfl rfl rfl hc hs K
    · refine lv_tableIn (off := 1043) (tgt := 1083) hx hb dL_law_40 (by decide +kernel) (by decide +kernel) (by decide +kernel) (by decide) ?_
      exact op_meanPaid C R hP hD hS hl hi1 hi2 hi3 hi4 hi5 rfl rfl rfl rfl rfl hc hs K
    · refine lv_tableIn (off := 1086) (tgt := 1126) hx hb dL_law_40 (by decide +kernel) (by decide +kernel) (by decide +kernel) (by decide) ?_
      exact op_pass C R hP hD hS hl hi1 hi2 hi3 hi4 hi5 rfl rfl rfl rfl rfl hc hs K
    · refine lv_tableIn (off := 1142) (tgt := 1182) hx hb dL_law_40 (by decide +kernel) (by decide +kernel) (by decide +kernel) (by decide) ?_
      exact op_pull C R hP hD hS hl hi1 hi2 hi3 hi4 hi5 rfl rfl rfl rfl rfl hc hs K
    · refine lv_tableIn (off := 1210) (tgt := 1250) hx hb dL_law_40 (by decide +kernel) (by decide +kernel) (by decide +kernel) (by decide) ?_
      exact op_come C R hP hD hS hl hi1 hi2 hi3 hi4 hi5 rfl rfl rfl rfl rfl hc hs K
    · refine lv_tableIn (off := 1290) (tgt := 1330) hx hb dL_law_40 (by decide +kernel) (by decide +kernel) (by decide +kernel) (by decide) ?_
      exact op_length C R hP hD hS hl hi1 hi2 hi3 hi4 hi5 rfl rfl rfl rfl rfl hc hs K
    · refine lv_tableIn (off := 1346) (tgt := 1386) hx hb dL_law_40 (by decide +kernel) (by decide +kernel) (by decide +kernel) (by decide) ?_
      exact op_undo C R hP hD hS hl hi1 hi2 hi3 hi4 hi5 rfl rfl rfl rfl rfl hc hs K
    · refine lv_tableIn (off := 1359) (tgt := 1399) hx hb dL_law_40 (by decide +kernel) (by decide +kernel) (by decide +kernel) (by decide) ?_
      exact op_checksum C R hP hD hS hl hi1 hi2 hi3 hi4 hi5 rfl rfl rfl rfl rfl hc hs K
  · refine lv_tableOut (tgt := 1413) hx hb dL_law_40 (Or.inr (by rw [nI_toInt (by omega)]; omega)) (by decide) ?_
    refine W.widen (k := cells + 1) (n := slots + 6) (by omega) (by omega) ?_
    exact K _ _ _ _ _ _ R hP hD hS hl
theorem law_loop (C : LC p l s m c b L xs D cy) (hL : L ≤ 3072) (cN sN : Nat) (hcN : cN ≤ room_1.cells) (hsN : sN ≤ room_1.slots)
    (K : ∀ (H : Heap) (locs : List Loc) (ls : Array Slot), va_S (fun q => s.heap.size ≤ q) s.heap H locs → W p l e room_1 s m #[Value.ref b] below meth c H locs cN sN Q (F0 m 1419 ls [])) :
    ∀ (fuel t : Nat) (st : St) (rf : Rf) (out : Nat → Int64) (H : Heap) (locs : List Loc) (ls : Array Slot) (cells slots : Nat), t + fuel = 513 → t ≤ 512 → RAll st rf → va_P D vwCl (LW cy u v qo qx qout st rf out) H → va_D (fun q => s.heap.size ≤ q) (LW cy u v qo qx qout st rf out) → va_S (fun q => s.heap.size ≤ q) s.heap H locs → lv_has ls 9 [(4, .int (nI (6 * t))), (3, .ref qout), (2, .ref qx), (1, .ref qo), (0, .ref b)] → cells + fuel ≤ cN → slots + 6 * fuel ≤ sN →
      W p l e room_1 s m #[Value.ref b] below meth c H locs cells slots Q (F0 m 23 ls [])
  | 0, t, _, _, _, _, _, _, _, _, h0, h1, _, _, _, _, _, _, _ => absurd h0 (by omega)
  | fuel + 1, t, st, rf, out, H, locs, ls, cells, slots, h0, h1, R, hP, hD, hS, hl, hc, hs => by
    obtain ⟨hx, hb, -, -, -, hX, hbl, -, -⟩ := id C
    have e6 : (Int32.ofNat L - 6).toInt = (L : Int) - 6 := by
      have h := nI_toInt (n := L) (by omega)
      rw [Int32.toInt_sub, show (Int32.ofNat L).toInt = (L : Int) from h, show (6 : Int32).toInt = 6 from by decide, Int.bmod_eq_of_le (by omega) (by omega)]
    have ei : (nI (6 * t)).toInt = ((6 * t : Nat) : Int) := nI_toInt (by omega)
    refine lv_iload hx hb dL_law_23 (lv_at hl 0 rfl) ?_
    refine lv_aload_n hx hb dL_law_25 rfl (lv_at hl 4 rfl) ?_
    refine va_slen hx hb hX hbl (Nat.not_le.mpr hbl) hS dL_law_26 ?_
    refine lv_bipush (v := 6) hx hb dL_law_27 (by decide) ?_
    refine lv_isub hx hb dL_law_29 ?_
    refine lv_icmp_gt (tgt := 1419) hx hb dL_law_30 (by decide) (fun _ => ?_) (fun h => ?_)
    · exact W.widen (by omega) (by omega) (K H locs ls hS)
    · rw [Int32.lt_iff_toInt_lt, e6, ei] at h
      have hlt : 6 * t + 6 ≤ L := by omega
      have hi : ∀ k : Nat, k < 6 → vp_in (nI (6 * t) + nI k) L := fun k hk => by
        rw [nI_add]
        exact vp_in_nI (by omega) (by omega)
      refine law_op C R hP hD hS hl (vp_in_nI (by omega) (by omega)) (hi 1 (by omega)) (hi 2 (by omega)) (hi 3 (by omega)) (hi 4 (by omega)) (hi 5 (by omega)) (by omega) (by omega) ?_
      intro st1 rf1 out1 H1 locs1 ls1 R1 hP1 hD1 hS1 hl1
      refine lv_iinc (lv' := [(4, .int (nI (6 * (t + 1)))), (3, .ref qout), (2, .ref qx), (1, .ref qo), (0, .ref b)]) hx hb dL_law_1413 hl1 (k := 0) rfl (v := nI (6 * (t + 1))) (by rw [show Int32.ofInt 6 = nI 6 from rfl, nI_add, Nat.mul_add]) (by decide) rfl (fun ls2 hl2 => ?_)
      refine lv_goto (tgt := 23) hx hb dL_law_1416 (by decide) ?_
      exact law_loop C hL cN sN hcN hsN K fuel (t + 1) st1 rf1 out1 H1 locs1 ls2 (cells + 1) (slots + 6) (by omega) (by omega) R1 hP1 hD1 hS1 hl2 (by omega) (by omega)
end OP
