/-! what holds at the law's entry: the environment -/
theorem k_arr {args : Array Value} {s : State} {ty : FieldType} (h : (Cond.arrayClass ty).before args s = true) : ∃ cA : ClassId, ArrOfT s cA ty ∧ s.vm.findClass ("[" ++ ty.toString) = some cA := by
  obtain ⟨c, k, comp, h1, h2, h3⟩ := Cond.arrayClass_spec h
  exact ⟨c, fun n z => ⟨fun k h => (by cases h), k, h2, comp, h3⟩, h1⟩
theorem k_arrq {args : Array Value} {s : State} {C : String} (h : (Cond.arrayOver (.object C)).before args s = true) : ∃ cA : ClassId, ArrOfT s cA (.object C) ∧ va_RA s cA (.object C) := by
  obtain ⟨comp, c, k, h1, h2, h3, h4, h5⟩ := Cond.arrayOver_spec h
  exact ⟨c, fun n z => ⟨fun k h => (by cases h), k, h3, comp, h4⟩, k, comp, h3, h4, h1, h5⟩
theorem k_arrr {args : Array Value} {s : State} {t : FieldType} (h : (Cond.arrayOver (.array t)).before args s = true) : ∃ cA : ClassId, ArrOfT s cA (.array t) ∧ s.vm.findClass ("[" ++ (FieldType.array t).toString) = some cA := by
  obtain ⟨comp, c, k, h1, h2, h3, h4, h5⟩ := Jvm.Stand.arrayOver_specB h
  exact ⟨c, fun n z => ⟨fun k h => (by cases h), k, h3, comp, h4⟩, h5⟩
/-- what the Statement says of a String constant -/
def strConds (own : String) (k : Nat) (bs : List Int32) : List Cond :=
  [.exactly (.string own k) "java/lang/String", .eq (.field (.string own k) "java/lang/String" "coder" "B") (.int 0), .arrayOf (.field (.string own k) "java/lang/String" "value" "[B") .byte, .eq (.length (.field (.string own k) "java/lang/String" "value" "[B")) (.int (Int32.ofNat bs.length))] ++ (List.range bs.length).map (fun j => .eq (.elem (.field (.string own k) "java/lang/String" "value" "[B") (.int (Int32.ofNat j))) (.int (bs.getD j 0)))
theorem kStrOf {args : Array Value} {s : State} {own tx : String} {k : Nat} {bs : List Int32} {A : Nat → Prop} (hN : bs.length < 2 ^ 31) (h : ∀ c ∈ strConds own k bs, c.before args s = true) (hr : (Cond.stringRef own k tx).before args s = true) (hA : ∀ a : Nat, a < s.heap.size → ¬ A a) : ∃ a : Nat, vk_R own k tx a s ∧ kStrAt bs a A s s.heap := by
  have hex : (Cond.exactly (.string own k) "java/lang/String").before args s = true := h _ (List.mem_append_left _ (List.mem_of_getElem? (i := 0) rfl))
  have hco : (Cond.eq (.field (.string own k) "java/lang/String" "coder" "B") (.int 0)).before args s = true := h _ (List.mem_append_left _ (List.mem_of_getElem? (i := 1) rfl))
  have har : (Cond.arrayOf (.field (.string own k) "java/lang/String" "value" "[B") .byte).before args s = true := h _ (List.mem_append_left _ (List.mem_of_getElem? (i := 2) rfl))
  have hle : (Cond.eq (.length (.field (.string own k) "java/lang/String" "value" "[B")) (.int (Int32.ofNat bs.length))).before args s = true := h _ (List.mem_append_left _ (List.mem_of_getElem? (i := 3) rfl))
  have hel : ∀ j : Nat, j < bs.length → (Cond.eq (.elem (.field (.string own k) "java/lang/String" "value" "[B") (.int (Int32.ofNat j))) (.int (bs.getD j 0))).before args s = true := fun j hj => h _ (List.mem_append_right _ (List.mem_map.mpr ⟨j, List.mem_range.mpr hj, rfl⟩))
  obtain ⟨a, c, cA, kA, q1, q2, q3, q4, q5, q6, -⟩ := Cond.exactly_spec (args := args) (first := s) (o := none) (s := s) (idx := []) (t := .string own k) (cls := "java/lang/String") hex
  obtain ⟨t, ht, hT⟩ := va_Tof (f := fun j => .int (bs.getD j 0)) (A := A) hN har (va_eqt hle) (fun j hj => va_eqt (hel j hj)) hA
  exact ⟨a, vk_R.of hr q1, ⟨cA, q3, q5, by rw [q6]; exact q2, hA a (Array.getElem?_eq_some_iff.mp q3).1⟩, vk_OFof q1 (va_eqt hco) hA, t, vk_OFof q1 ht hA, hT⟩
set_option maxRecDepth 100000 in
theorem kC_0 : ∀ c ∈ strConds "PeepBox" 78 [110, 111, 116, 32, 97, 32, 108, 101, 110, 103, 116, 104, 32, 111, 102, 32, 116, 104, 101, 32, 98, 117, 102, 102, 101, 114], c ∈ flatC (Jvm.Cond.and given_1 narrow_1) := by decide +kernel
set_option maxRecDepth 100000 in
theorem kC_1 : ∀ c ∈ strConds "PeepBox" 140 [110, 111, 32, 115, 117, 99, 104, 32, 110, 117, 109, 98, 101, 114, 32, 111, 102, 32, 116, 104, 101, 32, 115, 116, 97, 116, 101], c ∈ flatC (Jvm.Cond.and given_1 narrow_1) := by decide +kernel
set_option maxRecDepth 100000 in
theorem kC_2 : ∀ c ∈ strConds "PeepBox" 163 [110, 111, 32, 115, 117, 99, 104, 32, 110, 117, 109, 98, 101, 114, 32, 111, 102, 32, 97, 32, 112, 108, 97, 110, 101], c ∈ flatC (Jvm.Cond.and given_1 narrow_1) := by decide +kernel
set_option maxRecDepth 100000 in
theorem kC_3 : ∀ c ∈ strConds "PeepBox" 183 [110, 111, 32, 115, 117, 99, 104, 32, 110, 117, 109, 98, 101, 114, 32, 111, 102, 32, 97, 32, 104, 111, 108, 101], c ∈ flatC (Jvm.Cond.and given_1 narrow_1) := by decide +kernel
set_option maxRecDepth 100000 in
theorem kC_4 : ∀ c ∈ strConds "PeepBox" 238 [116, 104, 101, 32, 98, 97, 99, 107, 32, 99, 97, 110, 39, 116, 32, 98, 101, 32, 112, 117, 108, 108, 101, 100], c ∈ flatC (Jvm.Cond.and given_1 narrow_1) := by decide +kernel
set_option maxRecDepth 100000 in
theorem kC_5 : ∀ c ∈ strConds "PeepBox" 244 [116, 104, 101, 114, 101, 32, 105, 115, 32, 110, 111, 32, 114, 111, 111, 109, 32, 102, 111, 114, 32, 111, 110, 101, 32, 109, 111, 114, 101, 32, 118, 105, 101, 119, 101, 114], c ∈ flatC (Jvm.Cond.and given_1 narrow_1) := by decide +kernel
set_option maxRecDepth 100000 in
theorem kC_6 : ∀ c ∈ strConds "PeepBox" 270 [110, 111, 32, 115, 117, 99, 104, 32, 112, 108, 97, 110, 101], c ∈ flatC (Jvm.Cond.and given_1 narrow_1) := by decide +kernel
set_option maxRecDepth 100000 in
theorem kC_7 : ∀ c ∈ strConds "PeepBox" 273 [110, 111, 32, 115, 117, 99, 104, 32, 104, 111, 108, 101], c ∈ flatC (Jvm.Cond.and given_1 narrow_1) := by decide +kernel
set_option maxRecDepth 100000 in
theorem kC_8 : ∀ c ∈ strConds "PeepBox" 275 [110, 111, 32, 115, 117, 99, 104, 32, 118, 105, 101, 119, 101, 114], c ∈ flatC (Jvm.Cond.and given_1 narrow_1) := by decide +kernel
set_option maxRecDepth 100000 in
theorem kC_9 : ∀ c ∈ strConds "PeepBox" 277 [110, 111, 32, 115, 117, 99, 104, 32, 99, 101, 108, 108], c ∈ flatC (Jvm.Cond.and given_1 narrow_1) := by decide +kernel
set_option maxRecDepth 100000 in
theorem kC_10 : ∀ c ∈ strConds "PeepBox" 279 [111, 117, 116, 32, 111, 102, 32, 114, 97, 110, 103, 101], c ∈ flatC (Jvm.Cond.and given_1 narrow_1) := by decide +kernel
set_option maxRecDepth 100000 in
theorem kC_11 : ∀ c ∈ strConds "PeepBox$Setup" 92 [98, 111, 120], c ∈ flatC (Jvm.Cond.and given_1 narrow_1) := by decide +kernel
set_option maxRecDepth 100000 in
theorem kC_12 : ∀ c ∈ strConds "PeepBox$Setup" 107 [112, 108, 97, 110, 101], c ∈ flatC (Jvm.Cond.and given_1 narrow_1) := by decide +kernel
set_option maxRecDepth 100000 in
theorem kC_13 : ∀ c ∈ strConds "PeepBox$Setup" 112 [104, 111, 108, 101], c ∈ flatC (Jvm.Cond.and given_1 narrow_1) := by decide +kernel
set_option maxRecDepth 100000 in
theorem kC_14 : ∀ c ∈ strConds "PeepBox$Setup" 117 [114, 101, 97, 99, 104], c ∈ flatC (Jvm.Cond.and given_1 narrow_1) := by decide +kernel
set_option maxRecDepth 100000 in
theorem kC_15 : ∀ c ∈ strConds "PeepBox$Setup" 122 [108, 101, 110, 103, 116, 104], c ∈ flatC (Jvm.Cond.and given_1 narrow_1) := by decide +kernel
set_option maxRecDepth 100000 in
theorem kC_16 : ∀ c ∈ strConds "PeepBox$Setup" 127 [118, 105, 101, 119, 101, 114], c ∈ flatC (Jvm.Cond.and given_1 narrow_1) := by decide +kernel
set_option maxRecDepth 100000 in
theorem kC_17 : ∀ c ∈ strConds "PeepBox$Setup" 132 [112, 114, 105, 99, 101], c ∈ flatC (Jvm.Cond.and given_1 narrow_1) := by decide +kernel
set_option maxRecDepth 100000 in
theorem kC_18 : ∀ c ∈ strConds "PeepBox$Setup" 199 [115, 104, 111, 119, 110], c ∈ flatC (Jvm.Cond.and given_1 narrow_1) := by decide +kernel
set_option maxRecDepth 100000 in
theorem kC_19 : ∀ c ∈ strConds "PeepBox$Setup" 201 [107, 105, 110, 100, 115], c ∈ flatC (Jvm.Cond.and given_1 narrow_1) := by decide +kernel
set_option maxRecDepth 100000 in
theorem kC_20 : ∀ c ∈ strConds "PeepBox$Setup" 203 [100, 101, 112, 116, 104], c ∈ flatC (Jvm.Cond.and given_1 narrow_1) := by decide +kernel
set_option maxRecDepth 100000 in
theorem kC_21 : ∀ c ∈ strConds "PeepBoxModel" 111 [115, 104, 111, 119, 110], c ∈ flatC (Jvm.Cond.and given_1 narrow_1) := by decide +kernel
set_option maxRecDepth 100000 in
theorem kC_22 : ∀ c ∈ strConds "PeepBoxModel" 117 [107, 105, 110, 100, 115], c ∈ flatC (Jvm.Cond.and given_1 narrow_1) := by decide +kernel
set_option maxRecDepth 100000 in
theorem kC_23 : ∀ c ∈ strConds "PeepBoxModel" 119 [100, 101, 112, 116, 104], c ∈ flatC (Jvm.Cond.and given_1 narrow_1) := by decide +kernel
set_option maxRecDepth 100000 in
theorem kC_24 : ∀ c ∈ strConds "PeepBoxModel" 121 [104, 111, 108, 101], c ∈ flatC (Jvm.Cond.and given_1 narrow_1) := by decide +kernel
set_option maxRecDepth 100000 in
theorem kC_25 : ∀ c ∈ strConds "PeepBoxModel" 153 [112, 108, 97, 110, 101], c ∈ flatC (Jvm.Cond.and given_1 narrow_1) := by decide +kernel
set_option maxRecDepth 100000 in
theorem kC_26 : ∀ c ∈ strConds "PeepBoxModel" 161 [114, 101, 97, 99, 104], c ∈ flatC (Jvm.Cond.and given_1 narrow_1) := by decide +kernel
set_option maxRecDepth 100000 in
theorem kC_27 : ∀ c ∈ strConds "PeepBoxModel" 166 [108, 101, 110, 103, 116, 104], c ∈ flatC (Jvm.Cond.and given_1 narrow_1) := by decide +kernel
set_option maxRecDepth 100000 in
theorem kC_28 : ∀ c ∈ strConds "PeepBoxModel" 167 [118, 105, 101, 119, 101, 114], c ∈ flatC (Jvm.Cond.and given_1 narrow_1) := by decide +kernel
set_option maxRecDepth 100000 in
theorem kC_29 : ∀ c ∈ strConds "PeepBoxModel" 172 [112, 114, 105, 99, 101], c ∈ flatC (Jvm.Cond.and given_1 narrow_1) := by decide +kernel
set_option maxRecDepth 100000 in
theorem kC_30 : ∀ c ∈ strConds "PeepBoxModel" 178 [98, 111, 120], c ∈ flatC (Jvm.Cond.and given_1 narrow_1) := by decide +kernel
set_option maxRecDepth 100000 in
theorem kStrRef : ∀ q ∈ kStr, Cond.stringRef q.1 q.2.1 q.2.2.1 ∈ lw_tbl := by decide +kernel
theorem kStrLen : ∀ q ∈ kStr, q.2.2.2.length < 2 ^ 31 := by decide +kernel
theorem kStrC : ∀ q ∈ kStr, ∀ c ∈ strConds q.1 q.2.1 q.2.2.2, c ∈ flatC (Jvm.Cond.and given_1 narrow_1) := List.forall_mem_cons.mpr ⟨kC_0, List.forall_mem_cons.mpr ⟨kC_1, List.forall_mem_cons.mpr ⟨kC_2, List.forall_mem_cons.mpr ⟨kC_3, List.forall_mem_cons.mpr ⟨kC_4, List.forall_mem_cons.mpr ⟨kC_5, List.forall_mem_cons.mpr ⟨kC_6, List.forall_mem_cons.mpr ⟨kC_7, List.forall_mem_cons.mpr ⟨kC_8, List.forall_mem_cons.mpr ⟨kC_9, List.forall_mem_cons.mpr ⟨kC_10, List.forall_mem_cons.mpr ⟨kC_11, List.forall_mem_cons.mpr ⟨kC_12, List.forall_mem_cons.mpr ⟨kC_13, List.forall_mem_cons.mpr ⟨kC_14, List.forall_mem_cons.mpr ⟨kC_15, List.forall_mem_cons.mpr ⟨kC_16, List.forall_mem_cons.mpr ⟨kC_17, List.forall_mem_cons.mpr ⟨kC_18, List.forall_mem_cons.mpr ⟨kC_19, List.forall_mem_cons.mpr ⟨kC_20, List.forall_mem_cons.mpr ⟨kC_21, List.forall_mem_cons.mpr ⟨kC_22, List.forall_mem_cons.mpr ⟨kC_23, List.forall_mem_cons.mpr ⟨kC_24, List.forall_mem_cons.mpr ⟨kC_25, List.forall_mem_cons.mpr ⟨kC_26, List.forall_mem_cons.mpr ⟨kC_27, List.forall_mem_cons.mpr ⟨kC_28, List.forall_mem_cons.mpr ⟨kC_29, List.forall_mem_cons.mpr ⟨kC_30, fun _ h => absurd h List.not_mem_nil⟩⟩⟩⟩⟩⟩⟩⟩⟩⟩⟩⟩⟩⟩⟩⟩⟩⟩⟩⟩⟩⟩⟩⟩⟩⟩⟩⟩⟩⟩⟩
set_option maxRecDepth 100000 in
theorem kNestIn : ∀ q ∈ kNest, Cond.methodLinkNest q.1 q.2.1 q.2.2.1 q.2.2.2 ∈ lw_tbl := by decide +kernel
set_option maxRecDepth 100000 in
theorem kDeclIn : ∀ Y ∈ kDecl, Cond.declares (Bundle.initS Y) ∈ lw_tbl := by decide +kernel
set_option maxRecDepth 100000 in
theorem kThrownIn : ∀ X ∈ kThrown, Cond.castable X X ∈ lw_tbl ∨ Cond.castable X X ∈ flatC (Jvm.Cond.and given_1 narrow_1) := by decide +kernel
set_option maxHeartbeats 4000000 in
set_option maxRecDepth 100000 in
theorem EL_start {s : State} {b : Nat} (hts : ∀ w ∈ lw_tbl, w.before #[Value.ref b] s = true) (hgv : (Jvm.Cond.and given_1 narrow_1).before #[Value.ref b] s = true) : ∃ (D : va_G) (cy : Nat → ClassId), EL D cy (fun q => s.heap.size ≤ q) s s.heap := by
  have hs := flat_of_before _ hgv
  have hA : ∀ a : Nat, a < s.heap.size → ¬ (fun q : Nat => s.heap.size ≤ q) a := fun a h => Nat.not_le.mpr h
  obtain ⟨c0, i0, hn0⟩ := u_known (C := RX0) (T := TX0) (N := 10) (n := 10) hts inX0 (hts (.instantiable RX0 10) (by decide +kernel))
  obtain ⟨c1, i1, hn1⟩ := u_known (C := RX1) (T := TX1) (N := 5) (n := 5) hts inX1 (hts (.instantiable RX1 5) (by decide +kernel))
  obtain ⟨c2, i2, hn2⟩ := u_known (C := RX2) (T := TX2) (N := 3) (n := 3) hts inX2 (hts (.instantiable RX2 3) (by decide +kernel))
  obtain ⟨c3, i3, hn3⟩ := u_known (C := RX3) (T := TX3) (N := 12) (n := 12) hts inX3 (hts (.instantiable RX3 12) (by decide +kernel))
  obtain ⟨c4, i4, hn4⟩ := u_known (C := RX4) (T := TX4) (N := 2) (n := 2) hts inX4 (hts (.instantiable RX4 2) (by decide +kernel))
  obtain ⟨c5, i5, hn5⟩ := u_known (C := RX5) (T := TX5) (N := 5) (n := 5) hts inX5 (hts (.instantiable RX5 5) (by decide +kernel))
  obtain ⟨c6, i6, hn6⟩ := u_known (C := RX6) (T := TX6) (N := 8) (n := 8) hts inX6 (hts (.instantiable RX6 8) (by decide +kernel))
  obtain ⟨c7, i7, hn7⟩ := u_known (C := RX7) (T := TX7) (N := 19) (n := 19) hts inX7 (hts (.instantiable RX7 19) (by decide +kernel))
  obtain ⟨y0, hy0, hz0⟩ := k_arr (ty := .int) (hts (.arrayClass .int) (by decide +kernel))
  obtain ⟨y1, hy1, hz1⟩ := k_arr (ty := .byte) (hts (.arrayClass .byte) (by decide +kernel))
  obtain ⟨y2, hy2, hz2⟩ := k_arr (ty := .long) (hts (.arrayClass .long) (by decide +kernel))
  obtain ⟨y3, hy3, hz3⟩ := k_arrq (C := "PeepBox$Show") (hts (.arrayOver (.object "PeepBox$Show")) (by decide +kernel))
  obtain ⟨y4, hy4, hz4⟩ := k_arrr (t := .int) (hts (.arrayOver (.array .int)) (by decide +kernel))
  refine ⟨(fun k => [c0, c1, c2, c3, c4, c5, c6, c7].getD k 0, fun k => [i0, i1, i2, i3, i4, i5, i6, i7].getD k (fun _ => 0)), fun k => [y0, y1, y2, y3, y4].getD k 0, ⟨⟨⟨?_, ?_⟩, ?_, ?_, ?_, ?_, ?_, ?_, ?_, ?_, ?_⟩, ?_⟩, ?_, ?_, ?_⟩
  · intro k q hq
    match k, hq with
    | 0, hq => cases hq; exact hn0
    | 1, hq => cases hq; exact hn1
    | 2, hq => cases hq; exact hn2
    | 3, hq => cases hq; exact hn3
    | 4, hq => cases hq; exact hn4
    | 5, hq => cases hq; exact hn5
    | 6, hq => cases hq; exact hn6
    | 7, hq => cases hq; exact hn7
    | k + 8, hq => simp [vwCl] at hq
  · intro k q hq
    match k, hq with
    | 0, hq => cases hq; exact ⟨hy0, hz0⟩
    | 1, hq => cases hq; exact ⟨hy1, hz1⟩
    | 2, hq => cases hq; exact ⟨hy2, hz2⟩
    | 3, hq => cases hq; exact ⟨hy3, hz3⟩
    | 4, hq => cases hq; exact ⟨hy4, hz4⟩
    | k + 5, hq => simp [kTys] at hq
  · exact fun q hq => va_Nw.of rfl (hts _ (kNestIn q hq))
  · exact fun q hq => kStrOf (kStrLen q hq) (fun c hc => hs _ (kStrC q hq c hc)) (hts _ (kStrRef q hq)) hA
  · exact va_Zof (hts (.laysStatic "java/lang/String" "COMPACT_STRINGS" "Z") (by decide +kernel)) (hts (.initialized "java/lang/String") (by decide +kernel)) (va_eqt (hs (.eq (.static "java/lang/String" "COMPACT_STRINGS" "Z") (.int 1)) (by decide +kernel))) hA
  · exact vx_Zqof (hts (.laysStatic Bundle.tN "UNASSIGNED_STACK" Bundle.steD) (by decide +kernel)) (hts (.initialized Bundle.tN) (by decide +kernel)) (hs (.isRef (.static Bundle.tN "UNASSIGNED_STACK" Bundle.steD)) (by decide +kernel)) hA
  · exact vx_Zqof (hts (.laysStatic Bundle.tN "SUPPRESSED_SENTINEL" Bundle.listD) (by decide +kernel)) (hts (.initialized Bundle.tN) (by decide +kernel)) (hs (.isRef (.static Bundle.tN "SUPPRESSED_SENTINEL" Bundle.listD)) (by decide +kernel)) hA
  · exact va_AO.of (hts (.arrayOver (.object "PeepBox$Show")) (by decide +kernel))
  · exact fun X hX => va_Nw.of rfl ((kThrownIn X hX).elim (fun h => hts _ h) (fun h => hs _ h))
  · exact va_Zqof (hts (.laysStatic "jdk/internal/util/Preconditions" "SIOOBE_FORMATTER" "Ljava/util/function/BiFunction;") (by decide +kernel)) (hts (.initialized "jdk/internal/util/Preconditions") (by decide +kernel)) (hs (.isRef (.static "jdk/internal/util/Preconditions" "SIOOBE_FORMATTER" "Ljava/util/function/BiFunction;")) (by decide +kernel)) hA
  · exact fun Y hY => va_Nw.of rfl (hts _ (kDeclIn Y hY))
  · exact va_AOA.of (hts (.arrayOver (.array .int)) (by decide +kernel))
  · exact va_Nc.of (hs (.not (.castable (kXn 2) (kXn 1))) (by decide +kernel))
  · exact va_Nc.of (hs (.not (.castable (kXn 3) (kXn 1))) (by decide +kernel))
  · exact va_Nc.of (hs (.not (.castable (kXn 3) (kXn 2))) (by decide +kernel))
