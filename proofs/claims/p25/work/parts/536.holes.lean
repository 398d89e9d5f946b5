/-! NUMBERS: the reference's reader: the holes, the reach and the viewers of such a text -/
theorem numT_1 (v : Nat → Nat) : numT v 1 = [32] ++ dcs (v 0) := rfl
theorem numT_2 (v : Nat → Nat) : numT v 2 = [32] ++ dcs (v 0) ++ ([32] ++ dcs (v 1)) := by
  show numT v 1 ++ [32] ++ dcs (v 1) = _
  rw [numT_1, List.append_assoc ([32] ++ dcs (v 0))]
theorem numT_3 (v : Nat → Nat) : numT v 3 = [32] ++ dcs (v 0) ++ ([32] ++ dcs (v 1)) ++ ([32] ++ dcs (v 2)) := by
  show numT v 2 ++ [32] ++ dcs (v 2) = _
  rw [numT_2, List.append_assoc ([32] ++ dcs (v 0) ++ ([32] ++ dcs (v 1)))]
theorem pr2_0 (x y : Nat) : pr2 x y 0 = x := rfl
theorem pr2_1 (x y : Nat) : pr2 x y 1 = y := rfl
section XR
variable {E : Nat} {bytes buffer : Nat → Int32} {tx : Nat → Nat}
theorem rd_holes (T : Txt E bytes buffer tx) {w hh q0 : Nat} {s : Int32} (hw : 1 ≤ w ∧ w ≤ 12) (hh8 : 1 ≤ hh ∧ hh ≤ 8) (seen told : Int32) {d : Nat → Int32} (d0 : d 0 = nI w) (d1 : d 1 = nI hh) (d3 : d 3 = nI 0) : ∀ O, O ≤ 4 → AtT E tx q0 (hlT w hh s O) → ∃ d', Rd E buffer O q0 seen told d (q0 + (hlT w hh s O).length) seen told d' ∧ d' 3 = nI O ∧ (∀ j, j ≠ 3 → j < 495 ∨ 495 + 2 * O ≤ j → d' j = d j) ∧ ∀ k, k < O → d' (495 + 2 * k) = nI (hlX w s k) ∧ d' (495 + 2 * k + 1) = nI (hlY hh s k)
  | 0, _, _ => ⟨d, Rd.zero, d3, fun _ _ _ => rfl, fun p hp => absurd hp (Nat.not_lt_zero p)⟩
  | O + 1, hO, m => by
    have hE := T.1
    have m : AtT E tx q0 (hlT w hh s O ++ [104, 111, 108, 101] ++ numT (pr2 (hlX w s O) (hlY hh s O)) 2 ++ [59]) := m
    rw [numT_2, pr2_0, pr2_1] at m
    have hlen : (hlT w hh s (O + 1)).length = (hlT w hh s O).length + 4 + (1 + (dcs (hlX w s O)).length + (1 + (dcs (hlY hh s O)).length)) + 1 := by
      show (hlT w hh s O ++ [104, 111, 108, 101] ++ numT (pr2 (hlX w s O) (hlY hh s O)) 2 ++ [59]).length = _
      rw [numT_2, pr2_0, pr2_1]
      simp only [List.length_append, List.length_cons, List.length_nil]
      try omega
    have hX : hlX w s O < w := Nat.mod_lt _ hw.1
    have hY : hlY hh s O < hh := Nat.mod_lt _ hh8.1
    obtain ⟨X, eX⟩ : ∃ z, z = hlX w s O := ⟨_, rfl⟩
    obtain ⟨Y, eY⟩ : ∃ z, z = hlY hh s O := ⟨_, rfl⟩
    rw [← eX, ← eY] at m hlen
    rw [← eX] at hX
    rw [← eY] at hY
    obtain ⟨m1, m9⟩ := m.app
    obtain ⟨m2, mn⟩ := m1.app
    obtain ⟨m3, mw⟩ := m2.app
    obtain ⟨ma, mb⟩ := mn.app
    simp only [List.length_append, List.length_cons, List.length_nil] at m9 ma mb
    obtain ⟨q, eq⟩ : ∃ z, z = q0 + (hlT w hh s O).length := ⟨_, rfl⟩
    rw [← eq] at mw
    have ma : AtT E tx (q + 4) ([32] ++ dcs X) := ma.to (by rw [eq]; omega)
    have mb : AtT E tx (q + 4 + 1 + (dcs X).length) ([32] ++ dcs Y) := mb.to (by rw [eq]; omega)
    have m9 : AtT E tx (q + 4 + 1 + (dcs X).length + 1 + (dcs Y).length) [59] := m9.to (by rw [eq]; omega)
    obtain ⟨d1', r1, c3, o1, c1⟩ := rd_holes T hw hh8 seen told d0 d1 d3 O (by omega) m3
    rw [← eq] at r1
    have hq9 := m9.1
    have hq9 : q + 4 + 1 + (dcs X).length + 1 + (dcs Y).length + 1 ≤ E := hq9
    have h59 : tx (q + 4 + 1 + (dcs X).length + 1 + (dcs Y).length) = 59 := m9.at T (j := 0) (Nat.succ_pos _) rfl (by decide)
    have t0 : tx q = 104 := mw.at T (j := 0) (by decide) rfl (by decide)
    have st := Rd.step T (p := q) (s := seen) (t := told) (d := d1') (by omega) (by omega) (fun ea ns => r_stHole T ea ns (nI 0) seen told hw.2 hh8.2 (show O < 4 by omega) hX hY ((o1 0 (by decide) (Or.inl (by decide))).trans d0) ((o1 1 (by decide) (Or.inl (by decide))).trans d1) c3 mw ma mb (by omega) h59)
    refine ⟨hlD d1' O X Y, ?_, pk_us, fun j h3 hj => ?_, fun k hk => ?_⟩
    · rw [hlen, show q0 + ((hlT w hh s O).length + 4 + (1 + (dcs X).length + (1 + (dcs Y).length)) + 1) = q + 4 + 1 + (dcs X).length + 1 + (dcs Y).length + 1 by rw [eq]; omega]
      exact r1.trans st
    · unfold hlD
      rw [pk_un h3, pk_un (by omega), pk_un (by omega)]
      exact o1 j h3 (by omega)
    · unfold hlD
      by_cases e : k = O
      · rw [e]
        refine ⟨?_, ?_⟩
        · rw [pk_un (by omega), pk_un (by omega), pk_us, eX]
        · rw [pk_un (by omega), pk_us, eY]
      · refine ⟨?_, ?_⟩
        · rw [pk_un (by omega), pk_un (by omega), pk_un (by omega)]; exact (c1 k (by omega)).1
        · rw [pk_un (by omega), pk_un (by omega), pk_un (by omega)]; exact (c1 k (by omega)).2
theorem rd_reach (T : Txt E bytes buffer tx) {q0 : Nat} {s : Int32} (told : Int32) {d : Nat → Int32} (d4 : d 4 = nI 9) (d5 : d 5 = nI 3) (m : AtT E tx q0 (reT s)) : ∃ (n2 : Nat) (sn : Int32) (d' : Nat → Int32), n2 ≤ 2 ∧ Rd E buffer n2 q0 (0 : Int32) told d (q0 + (reT s).length) sn told d' ∧ (¬ ((sn >>> ((2 : Int32) &&& 31)) &&& (1 : Int32)) = 1) ∧ d' 4 = nI (reR s) ∧ d' 5 = nI (reL s) ∧ ∀ j, j ≠ 4 → j ≠ 5 → d' j = d j := by
  have hE := T.1
  unfold reT at m ⊢
  unfold reR reL
  by_cases c : rnV s % 2 = 0
  · rw [if_pos c] at m ⊢
    rw [if_pos c, if_pos c]
    rw [numT_1, numT_1] at m ⊢
    obtain ⟨A, eA⟩ : ∃ z, z = rnV (rnS s) % 10 := ⟨_, rfl⟩
    obtain ⟨B, eB⟩ : ∃ z, z = 1 + rnV (rnS (rnS s)) % 6 := ⟨_, rfl⟩
    have hA : A ≤ 9 := by omega
    have hB : 1 ≤ B ∧ B ≤ 20 := by omega
    rw [← eA, ← eB] at m ⊢
    have m : AtT E tx q0 ([114, 101, 97, 99, 104] ++ ([32] ++ dcs A) ++ ([59] ++ [108, 101, 110, 103, 116, 104]) ++ ([32] ++ dcs B) ++ [59]) := m
    obtain ⟨m1, m9⟩ := m.app
    obtain ⟨m2, mb⟩ := m1.app
    obtain ⟨m3, mx⟩ := m2.app
    obtain ⟨mw, ma⟩ := m3.app
    obtain ⟨m5, mv⟩ := mx.app
    simp only [List.length_append, List.length_cons, List.length_nil] at m9 mb ma m5 mv
    have ma : AtT E tx (q0 + 5) ([32] ++ dcs A) := ma.to (by omega)
    have m5 : AtT E tx (q0 + 5 + 1 + (dcs A).length) [59] := m5.to (by omega)
    obtain ⟨q, eq⟩ : ∃ z, z = q0 + 5 + 1 + (dcs A).length + 1 := ⟨_, rfl⟩
    have mv : AtT E tx q [108, 101, 110, 103, 116, 104] := mv.to (by omega)
    have mb : AtT E tx (q + 6) ([32] ++ dcs B) := mb.to (by omega)
    have m9 : AtT E tx (q + 6 + 1 + (dcs B).length) [59] := m9.to (by omega)
    have hq9 := m9.1
    have hq9 : q + 6 + 1 + (dcs B).length + 1 ≤ E := hq9
    have t0 : tx q0 = 114 := mw.at T (j := 0) (by decide) rfl (by decide)
    have t1 : tx q = 108 := mv.at T (j := 0) (by decide) rfl (by decide)
    have u5 : tx (q0 + 5 + 1 + (dcs A).length) = 59 := m5.at T (j := 0) (Nat.succ_pos _) rfl (by decide)
    have u9 : tx (q + 6 + 1 + (dcs B).length) = 59 := m9.at T (j := 0) (Nat.succ_pos _) rfl (by decide)
    have s1 := Rd.step T (p := q0) (s := (0 : Int32)) (t := told) (d := d) (by omega) (by omega) (fun ea ns => r_stReach T ea ns (nI 0) (0 : Int32) told hA (by decide) mw ma (by omega) u5)
    rw [← eq] at s1
    have s2 := Rd.step T (p := q) (s := (0 : Int32) ||| ((1 : Int32) <<< ((0 : Int32) &&& 31))) (t := told) (d := upd d 4 (nI A)) (by omega) (by omega) (fun ea ns => r_stLength T ea ns (nI 0) ((0 : Int32) ||| ((1 : Int32) <<< ((0 : Int32) &&& 31))) told hB.1 hB.2 (by decide) mv mb (by omega) u9)
    refine ⟨1 + 1, (0 : Int32) ||| ((1 : Int32) <<< ((0 : Int32) &&& 31)) ||| ((1 : Int32) <<< ((1 : Int32) &&& 31)), upd (upd d 4 (nI A)) 5 (nI B), Nat.le_refl _, ?_, by decide, ?_, pk_us, fun j h4 h5 => by rw [pk_un h5, pk_un h4]⟩
    · have e9 : q0 + ([114, 101, 97, 99, 104] ++ ([32] ++ dcs A) ++ [59, 108, 101, 110, 103, 116, 104] ++ ([32] ++ dcs B) ++ [59]).length = q + 6 + 1 + (dcs B).length + 1 := by
        simp only [List.length_append, List.length_cons, List.length_nil]; omega
      rw [e9]
      exact s1.trans s2
    · rw [pk_un (by decide), pk_us]
  · rw [if_neg c] at m ⊢
    rw [if_neg c, if_neg c]
    exact ⟨0, 0, d, by decide, Rd.zero, by decide, d4, d5, fun _ _ _ => rfl⟩
theorem rd_viewers (T : Txt E bytes buffer tx) {q0 : Nat} {s : Int32} (seen told : Int32) {d : Nat → Int32} (d7 : d 7 = nI 0) : ∀ V, V ≤ 20 → AtT E tx q0 (gsT s V) → ∃ d', Rd E buffer V q0 seen told d (q0 + (gsT s V).length) seen told d' ∧ d' 7 = nI V ∧ (∀ j, j ≠ 7 → j < 503 ∨ 643 ≤ j → d' j = d j) ∧ ∀ v, v < V → ∀ j, j < 7 → d' (503 + 7 * v + j) = gsE s v j
  | 0, _, _ => ⟨d, Rd.zero, d7, fun _ _ _ => rfl, fun p hp => absurd hp (Nat.not_lt_zero p)⟩
  | V + 1, hV, m => by
    have hE := T.1
    have m : AtT E tx q0 (gsT s V ++ [118, 105, 101, 119, 101, 114] ++ numT (fun _ => gsH s V) 1 ++ ([] ++ [32] ++ [nI (97 + gsW s V)]) ++ ([] : List Int32) ++ numT (fun _ => gsM s V) 1 ++ [59]) := m
    rw [numT_1, numT_1, List.append_nil, List.nil_append] at m
    have hlen : (gsT s (V + 1)).length = (gsT s V).length + 6 + (1 + (dcs (gsH s V)).length) + 2 + (1 + (dcs (gsM s V)).length) + 1 := by
      show (gsT s V ++ [118, 105, 101, 119, 101, 114] ++ numT (fun _ => gsH s V) 1 ++ ([] ++ [32] ++ [nI (97 + gsW s V)]) ++ ([] : List Int32) ++ numT (fun _ => gsM s V) 1 ++ [59]).length = _
      rw [numT_1, numT_1, List.append_nil, List.nil_append]
      simp only [List.length_append, List.length_cons, List.length_nil]
      try omega
    have hA : gsH s V ≤ 9 := by unfold gsH; omega
    have hK : gsW s V < 26 := by unfold gsW; omega
    have hC : gsM s V ≤ 999 := by unfold gsM; omega
    have hG : gsE s V = gNew (nI (gsH s V)) (nI (gsW s V)) (nI (gsM s V)) := rfl
    obtain ⟨A, eA⟩ : ∃ z, z = gsH s V := ⟨_, rfl⟩
    obtain ⟨K, eK⟩ : ∃ z, z = gsW s V := ⟨_, rfl⟩
    obtain ⟨C, eC⟩ : ∃ z, z = gsM s V := ⟨_, rfl⟩
    rw [← eA, ← eC] at hlen
    rw [← eA, ← eK, ← eC] at m hG
    rw [← eA] at hA
    rw [← eK] at hK
    rw [← eC] at hC
    obtain ⟨m1, m9⟩ := m.app
    obtain ⟨m2, mc⟩ := m1.app
    obtain ⟨m3, mk⟩ := m2.app
    obtain ⟨m4, ma⟩ := m3.app
    obtain ⟨m5, mw⟩ := m4.app
    simp only [List.length_append, List.length_cons, List.length_nil] at m9 mc mk ma
    obtain ⟨q, eq⟩ : ∃ z, z = q0 + (gsT s V).length := ⟨_, rfl⟩
    rw [← eq] at mw
    have ma : AtT E tx (q + 6) ([32] ++ dcs A) := ma.to (by rw [eq]; omega)
    have mk : AtT E tx (q + 6 + 1 + (dcs A).length) ([32] ++ [nI (97 + K)]) := mk.to (by rw [eq]; omega)
    have mc : AtT E tx (q + 6 + 1 + (dcs A).length + 2) ([32] ++ dcs C) := mc.to (by rw [eq]; omega)
    have m9 : AtT E tx (q + 6 + 1 + (dcs A).length + 2 + 1 + (dcs C).length) [59] := m9.to (by rw [eq]; omega)
    obtain ⟨d1', r1, c7, o1, c1⟩ := rd_viewers T seen told d7 V (by omega) m5
    rw [← eq] at r1
    have hq9 := m9.1
    have hq9 : q + 6 + 1 + (dcs A).length + 2 + 1 + (dcs C).length + 1 ≤ E := hq9
    have h59 : tx (q + 6 + 1 + (dcs A).length + 2 + 1 + (dcs C).length) = 59 := m9.at T (j := 0) (Nat.succ_pos _) rfl (by decide)
    have k0 : tx (q + 6 + 1 + (dcs A).length) = 32 := mk.at T (j := 0) (Nat.succ_pos _) rfl (by decide)
    have k1 : tx (q + 6 + 1 + (dcs A).length + 1) = 97 + K := mk.at T (j := 1) (Nat.succ_lt_succ (Nat.succ_pos _)) rfl (by omega)
    have t0 : tx q = 118 := mw.at T (j := 0) (by decide) rfl (by decide)
    have st := Rd.step T (p := q) (s := seen) (t := told) (d := d1') (by omega) (by omega) (fun ea ns => r_stViewer T ea ns (nI 0) seen told (show V < 20 by omega) hA hK hC c7 mw ma k0 k1 mc (by omega) h59)
    refine ⟨addD d1' V A K C, ?_, addD_7, fun j h7 hj => ?_, fun v hv j hj => ?_⟩
    · rw [hlen, show q0 + ((gsT s V).length + 6 + (1 + (dcs A).length) + 2 + (1 + (dcs C).length) + 1) = q + 6 + 1 + (dcs A).length + 2 + 1 + (dcs C).length + 1 by rw [eq]; omega]
      exact r1.trans st
    · rw [addD_o (by omega) hj h7]; exact o1 j h7 hj
    · by_cases e : v = V
      · rw [e, addD_new hj, hG]
      · rw [addD_old (by omega) hj]
        exact c1 v (by omega) j hj
theorem rd_price (T : Txt E bytes buffer tx) {q0 : Nat} {s sn told : Int32} (hsn : ¬ ((sn >>> ((2 : Int32) &&& 31)) &&& (1 : Int32)) = 1) {d : Nat → Int32} (d8 : d 8 = nI 0) (d9 : d 9 = nI 0) (m : AtT E tx q0 (prT s)) : ∃ (n2 : Nat) (sn2 : Int32) (d' : Nat → Int32), n2 ≤ 1 ∧ Rd E buffer n2 q0 sn told d (q0 + (prT s).length) sn2 told d' ∧ (∀ j, j ≠ 8 → j ≠ 9 → j < 643 → d' j = d j) ∧ ∀ G : LG, (shZ G 5 = if rnV s % 2 = 0 then 1 else 0) → shK G = (tGen (rnV (rnS s) % 3) (rnS (rnS s))).1 → shN G = (tGen (rnV (rnS s) % 3) (rnS (rnS s))).2.1 → PX d' G := by
  have hE := T.1
  unfold prT at m ⊢
  by_cases c : rnV s % 2 = 0
  · rw [if_pos c] at m ⊢
    obtain ⟨dp, edp⟩ : ∃ z, z = rnV (rnS s) % 3 := ⟨_, rfl⟩
    obtain ⟨sd, esd⟩ : ∃ z, z = rnS (rnS s) := ⟨_, rfl⟩
    rw [← edp, ← esd] at m ⊢
    have hL := tGen_leaf dp (by omega) sd
    have hG := tGen_G dp sd
    have hV := prV_at dp sd
    have t0 : tx q0 = 112 := m.at T (j := 0) (by rw [List.length_append, List.length_append]; show 0 < 6 + _ + 2; omega) rfl (by decide)
    have hq := m.1
    simp only [List.length_append, List.length_cons, List.length_nil] at hq
    have st := Rd.step T (p := q0) (s := sn) (t := told) (d := d) (by omega) (by omega) (fun ea ns => r_stPrice T (N := (tGen dp sd).2.1) ea ns sn told (fun i => ⟨(hG i).1, (hV i).2.1, (hV i).2.2⟩) (fun i => (hV i).1) (wfT_3 hL) d9 hsn m)
    have hpl := pfx_len (tGen dp sd).1 (tGen dp sd).2.1 3 1
    refine ⟨1, sn ||| ((1 : Int32) <<< ((2 : Int32) &&& 31)), emL (upd d 8 (1 : Int32)) 0 (pfx (tGen dp sd).1 (tGen dp sd).2.1 3 1), Nat.le_refl _, ?_, fun j h8 h9 hj => ?_, fun G g5 gK gN => ?_⟩
    · have e9 : q0 + ([112, 114, 105, 99, 101, 32] ++ ndT (tGen dp sd).1 (prV dp sd) 3 1 0 ++ [32, 59]).length = q0 + 6 + (ndT (tGen dp sd).1 (prV dp sd) 3 1 0).length + 2 := by
        simp only [List.length_append, List.length_cons, List.length_nil]; omega
      rw [e9]
      exact st
    · rw [emL_o h9 _ (Or.inl (by omega)), pk_un h8]
    · refine Or.inr ⟨by rw [g5, if_pos c]; decide, ?_, ?_, fun j hj => ?_, ?_, ?_⟩
      · rw [emL_o (by decide) _ (Or.inl (by decide)), pk_us]; rfl
      · rw [gK, gN, emL_9 (L := 0) (by rw [pk_un (by decide)]; exact d9), Nat.zero_add]
      · rw [gK, gN] at hj ⊢
        have := emL_at (d := upd d 8 (1 : Int32)) (L := 0) (pfx (tGen dp sd).1 (tGen dp sd).2.1 3 1) j hj
        rw [Nat.add_zero] at this
        exact this
      · rw [gK]; exact hL
      · rw [gK, gN]; exact hG
  · rw [if_neg c] at m ⊢
    exact ⟨0, sn, d, by decide, Rd.zero, fun _ _ _ _ => rfl, fun G g5 _ _ => Or.inl ⟨by rw [g5, if_neg c], d8⟩⟩
end XR
