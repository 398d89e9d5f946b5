/-! what holds at the law's entry: the environment (lent.py) -/
theorem k_arr {args : Array Value} {s : State} {ty : FieldType} (h : (Cond.arrayClass ty).before args s = true) : ∃ cA : ClassId, ArrOfT s cA ty ∧ s.vm.findClass ("[" ++ ty.toString) = some cA := by
  obtain ⟨c, k, comp, h1, h2, h3⟩ := Cond.arrayClass_spec h
  exact ⟨c, fun n z => ⟨fun k h => (by cases h), k, h2, comp, h3⟩, h1⟩
theorem k_arrq {args : Array Value} {s : State} {C : String} (h : (Cond.arrayOver (.object C)).before args s = true) : ∃ cA : ClassId, ArrOfT s cA (.object C) ∧ va_RA s cA (.object C) := by
  obtain ⟨comp, c, k, h1, h2, h3, h4, h5⟩ := Cond.arrayOver_spec h
  exact ⟨c, fun n z => ⟨fun k h => (by cases h), k, h3, comp, h4⟩, k, comp, h3, h4, h1, h5⟩
theorem k_arrr {args : Array Value} {s : State} {t : FieldType} (h : (Cond.arrayOver (.array t)).before args s = true) : ∃ cA : ClassId, ArrOfT s cA (.array t) ∧ s.vm.findClass ("[" ++ (FieldType.array t).toString) = some cA := by
  obtain ⟨comp, c, k, h1, h2, h3, h4, h5⟩ := Jvm.Stand.arrayOver_specB h
  exact ⟨c, fun n z => ⟨fun k h => (by cases h), k, h3, comp, h4⟩, h5⟩
/-- what the Statement says of a String constant -/
def strConds (own : String) (k : Nat) (bs : List Int32) : List Cond :=
  [.exactly (.string own k) "java/lang/String", .eq (.field (.string own k) "java/lang/String" "coder" "B") (.int 0), .arrayOf (.field (.string own k) "java/lang/String" "value" "[B") .byte, .eq (.length (.field (.string own k) "java/lang/String" "value" "[B")) (.int (Int32.ofNat bs.length))] ++ (List.range bs.length).map (fun j => .eq (.elem (.field (.string own k) "java/lang/String" "value" "[B") (.int (Int32.ofNat j))) (.int (bs.getD j 0)))
theorem kStrOf {args : Array Value} {s : State} {own tx : String} {k : Nat} {bs : List Int32} {A : Nat → Prop} (hN : bs.length < 2 ^ 31) (h : ∀ c ∈ strConds own k bs, c.before args s = true) (hr : (Cond.stringRef own k tx).before args s = true) (hA : ∀ a : Nat, a < s.heap.size → ¬ A a) : ∃ a : Nat, vk_R own k tx a s ∧ kStrAt bs a A s s.heap := by
  have hex : (Cond.exactly (.string own k) "java/lang/String").before args s = true := h _ (List.mem_append_left _ (List.mem_of_getElem? (i := 0) rfl))
  have hco : (Cond.eq (.field (.string own k) "java/lang/String" "coder" "B") (.int 0)).before args s = true := h _ (List.mem_append_left _ (List.mem_of_getElem? (i := 1) rfl))
  have har : (Cond.arrayOf (.field (.string own k) "java/lang/String" "value" "[B") .byte).before args s = true := h _ (List.mem_append_left _ (List.mem_of_getElem? (i := 2) rfl))
  have hle : (Cond.eq (.length (.field (.string own k) "java/lang/String" "value" "[B")) (.int (Int32.ofNat bs.length))).before args s = true := h _ (List.mem_append_left _ (List.mem_of_getElem? (i := 3) rfl))
  have hel : ∀ j : Nat, j < bs.length → (Cond.eq (.elem (.field (.string own k) "java/lang/String" "value" "[B") (.int (Int32.ofNat j))) (.int (bs.getD j 0))).before args s = true := fun j hj => h _ (List.mem_append_right _ (List.mem_map.mpr ⟨j, List.mem_range.mpr hj, rfl⟩))
  obtain ⟨a, c, cA, kA, q1, q2, q3, q4, q5, q6, -⟩ := Cond.exactly_spec (args := args) (first := s) (o := none) (s := s) (idx := []) (t := .string own k) (cls := "java/lang/String") hex
  obtain ⟨t, ht, hT⟩ := va_Tof (f := fun j => .int (bs.getD j 0)) (A := A) hN har (va_eqt hle) (fun j hj => va_eqt (hel j hj)) hA
  exact ⟨a, vk_R.of hr q1, ⟨cA, q3, q5, by rw [q6]; exact q2, hA a (Array.getElem?_eq_some_iff.mp q3).1⟩, vk_OFof q1 (va_eqt hco) hA, t, vk_OFof q1 ht hA, hT⟩
theorem kStrOf2 {args : Array Value} {s : State} {own tx : String} {k : Nat} {bs : List Int32} {A : Nat → Prop} (hN : bs.length < 2 ^ 31) (h : ∀ c ∈ strConds own k bs, c.before args s = true) (hr : (Cond.stringRef own k tx).before args s = true) (hA : ∀ a : Nat, a < s.heap.size → ¬ A a) : ∃ a : Nat, (Term.string own k).eval args s none [] s = some (.ref a) ∧ kStrAt bs a A s s.heap := by
  have hex : (Cond.exactly (.string own k) "java/lang/String").before args s = true := h _ (List.mem_append_left _ (List.mem_of_getElem? (i := 0) rfl))
  have hco : (Cond.eq (.field (.string own k) "java/lang/String" "coder" "B") (.int 0)).before args s = true := h _ (List.mem_append_left _ (List.mem_of_getElem? (i := 1) rfl))
  have har : (Cond.arrayOf (.field (.string own k) "java/lang/String" "value" "[B") .byte).before args s = true := h _ (List.mem_append_left _ (List.mem_of_getElem? (i := 2) rfl))
  have hle : (Cond.eq (.length (.field (.string own k) "java/lang/String" "value" "[B")) (.int (Int32.ofNat bs.length))).before args s = true := h _ (List.mem_append_left _ (List.mem_of_getElem? (i := 3) rfl))
  have hel : ∀ j : Nat, j < bs.length → (Cond.eq (.elem (.field (.string own k) "java/lang/String" "value" "[B") (.int (Int32.ofNat j))) (.int (bs.getD j 0))).before args s = true := fun j hj => h _ (List.mem_append_right _ (List.mem_map.mpr ⟨j, List.mem_range.mpr hj, rfl⟩))
  obtain ⟨a, c, cA, kA, q1, q2, q3, q4, q5, q6, -⟩ := Cond.exactly_spec (args := args) (first := s) (o := none) (s := s) (idx := []) (t := .string own k) (cls := "java/lang/String") hex
  obtain ⟨t, ht, hT⟩ := va_Tof (f := fun j => .int (bs.getD j 0)) (A := A) hN har (va_eqt hle) (fun j hj => va_eqt (hel j hj)) hA
  exact ⟨a, q1, ⟨cA, q3, q5, by rw [q6]; exact q2, hA a (Array.getElem?_eq_some_iff.mp q3).1⟩, vk_OFof q1 (va_eqt hco) hA, t, vk_OFof q1 ht hA, hT⟩
theorem fl_in {l m : List Cond} {i n : Nat} (h : (l.drop i).take n = m) : ∀ c ∈ m, c ∈ l := fun c hc => List.mem_of_mem_drop (List.mem_of_mem_take (h.symm ▸ hc))
set_option maxRecDepth 100000 in
theorem kC_0 : ∀ c ∈ strConds "PeepBox" 78 [110, 111, 116, 32, 97, 32, 108, 101, 110, 103, 116, 104, 32, 111, 102, 32, 116, 104, 101, 32, 98, 117, 102, 102, 101, 114], c ∈ flatC (Jvm.Cond.and given_1 narrow_1) := fl_in (i := 338) (n := 30) rfl
set_option maxRecDepth 100000 in
theorem kC_1 : ∀ c ∈ strConds "PeepBox" 140 [110, 111, 32, 115, 117, 99, 104, 32, 110, 117, 109, 98, 101, 114, 32, 111, 102, 32, 116, 104, 101, 32, 115, 116, 97, 116, 101], c ∈ flatC (Jvm.Cond.and given_1 narrow_1) := fl_in (i := 737) (n := 31) rfl
set_option maxRecDepth 100000 in
theorem kC_2 : ∀ c ∈ strConds "PeepBox" 163 [110, 111, 32, 115, 117, 99, 104, 32, 110, 117, 109, 98, 101, 114, 32, 111, 102, 32, 97, 32, 112, 108, 97, 110, 101], c ∈ flatC (Jvm.Cond.and given_1 narrow_1) := fl_in (i := 768) (n := 29) rfl
set_option maxRecDepth 100000 in
theorem kC_3 : ∀ c ∈ strConds "PeepBox" 183 [110, 111, 32, 115, 117, 99, 104, 32, 110, 117, 109, 98, 101, 114, 32, 111, 102, 32, 97, 32, 104, 111, 108, 101], c ∈ flatC (Jvm.Cond.and given_1 narrow_1) := fl_in (i := 797) (n := 28) rfl
set_option maxRecDepth 100000 in
theorem kC_4 : ∀ c ∈ strConds "PeepBox" 238 [116, 104, 101, 32, 98, 97, 99, 107, 32, 99, 97, 110, 39, 116, 32, 98, 101, 32, 112, 117, 108, 108, 101, 100], c ∈ flatC (Jvm.Cond.and given_1 narrow_1) := fl_in (i := 540) (n := 28) rfl
set_option maxRecDepth 100000 in
theorem kC_5 : ∀ c ∈ strConds "PeepBox" 244 [116, 104, 101, 114, 101, 32, 105, 115, 32, 110, 111, 32, 114, 111, 111, 109, 32, 102, 111, 114, 32, 111, 110, 101, 32, 109, 111, 114, 101, 32, 118, 105, 101, 119, 101, 114], c ∈ flatC (Jvm.Cond.and given_1 narrow_1) := fl_in (i := 568) (n := 40) rfl
set_option maxRecDepth 100000 in
theorem kC_6 : ∀ c ∈ strConds "PeepBox" 270 [110, 111, 32, 115, 117, 99, 104, 32, 112, 108, 97, 110, 101], c ∈ flatC (Jvm.Cond.and given_1 narrow_1) := fl_in (i := 457) (n := 17) rfl
set_option maxRecDepth 100000 in
theorem kC_7 : ∀ c ∈ strConds "PeepBox" 273 [110, 111, 32, 115, 117, 99, 104, 32, 104, 111, 108, 101], c ∈ flatC (Jvm.Cond.and given_1 narrow_1) := fl_in (i := 490) (n := 16) rfl
set_option maxRecDepth 100000 in
theorem kC_8 : ∀ c ∈ strConds "PeepBox" 275 [110, 111, 32, 115, 117, 99, 104, 32, 118, 105, 101, 119, 101, 114], c ∈ flatC (Jvm.Cond.and given_1 narrow_1) := fl_in (i := 522) (n := 18) rfl
set_option maxRecDepth 100000 in
theorem kC_9 : ∀ c ∈ strConds "PeepBox" 277 [110, 111, 32, 115, 117, 99, 104, 32, 99, 101, 108, 108], c ∈ flatC (Jvm.Cond.and given_1 narrow_1) := fl_in (i := 474) (n := 16) rfl
set_option maxRecDepth 100000 in
theorem kC_10 : ∀ c ∈ strConds "PeepBox" 279 [111, 117, 116, 32, 111, 102, 32, 114, 97, 110, 103, 101], c ∈ flatC (Jvm.Cond.and given_1 narrow_1) := fl_in (i := 506) (n := 16) rfl
set_option maxRecDepth 100000 in
theorem kC_11 : ∀ c ∈ strConds "PeepBox$Setup" 92 [98, 111, 120], c ∈ flatC (Jvm.Cond.and given_1 narrow_1) := fl_in (i := 368) (n := 7) rfl
set_option maxRecDepth 100000 in
theorem kC_12 : ∀ c ∈ strConds "PeepBox$Setup" 107 [112, 108, 97, 110, 101], c ∈ flatC (Jvm.Cond.and given_1 narrow_1) := fl_in (i := 375) (n := 9) rfl
set_option maxRecDepth 100000 in
theorem kC_13 : ∀ c ∈ strConds "PeepBox$Setup" 112 [104, 111, 108, 101], c ∈ flatC (Jvm.Cond.and given_1 narrow_1) := fl_in (i := 384) (n := 8) rfl
set_option maxRecDepth 100000 in
theorem kC_14 : ∀ c ∈ strConds "PeepBox$Setup" 117 [114, 101, 97, 99, 104], c ∈ flatC (Jvm.Cond.and given_1 narrow_1) := fl_in (i := 392) (n := 9) rfl
set_option maxRecDepth 100000 in
theorem kC_15 : ∀ c ∈ strConds "PeepBox$Setup" 122 [108, 101, 110, 103, 116, 104], c ∈ flatC (Jvm.Cond.and given_1 narrow_1) := fl_in (i := 401) (n := 10) rfl
set_option maxRecDepth 100000 in
theorem kC_16 : ∀ c ∈ strConds "PeepBox$Setup" 127 [118, 105, 101, 119, 101, 114], c ∈ flatC (Jvm.Cond.and given_1 narrow_1) := fl_in (i := 411) (n := 10) rfl
set_option maxRecDepth 100000 in
theorem kC_17 : ∀ c ∈ strConds "PeepBox$Setup" 132 [112, 114, 105, 99, 101], c ∈ flatC (Jvm.Cond.and given_1 narrow_1) := fl_in (i := 421) (n := 9) rfl
set_option maxRecDepth 100000 in
theorem kC_18 : ∀ c ∈ strConds "PeepBox$Setup" 199 [115, 104, 111, 119, 110], c ∈ flatC (Jvm.Cond.and given_1 narrow_1) := fl_in (i := 430) (n := 9) rfl
set_option maxRecDepth 100000 in
theorem kC_19 : ∀ c ∈ strConds "PeepBox$Setup" 201 [107, 105, 110, 100, 115], c ∈ flatC (Jvm.Cond.and given_1 narrow_1) := fl_in (i := 439) (n := 9) rfl
set_option maxRecDepth 100000 in
theorem kC_20 : ∀ c ∈ strConds "PeepBox$Setup" 203 [100, 101, 112, 116, 104], c ∈ flatC (Jvm.Cond.and given_1 narrow_1) := fl_in (i := 448) (n := 9) rfl
set_option maxRecDepth 100000 in
theorem kCL_0 : ∀ c ∈ strConds "PeepBoxLaw" 100 [32], c ∈ flatC (Jvm.Cond.and given_1 narrow_1) := fl_in (i := 616) (n := 5) rfl
set_option maxRecDepth 100000 in
theorem kCL_1 : ∀ c ∈ strConds "PeepBoxLaw" 120 [98, 111, 120], c ∈ flatC (Jvm.Cond.and given_1 narrow_1) := fl_in (i := 608) (n := 7) rfl
set_option maxRecDepth 100000 in
theorem kCL_2 : ∀ c ∈ strConds "PeepBoxLaw" 126 [59], c ∈ flatC (Jvm.Cond.and given_1 narrow_1) := fl_in (i := 621) (n := 5) rfl
set_option maxRecDepth 100000 in
theorem kCL_3 : ∀ c ∈ strConds "PeepBoxLaw" 132 [112, 108, 97, 110, 101], c ∈ flatC (Jvm.Cond.and given_1 narrow_1) := fl_in (i := 626) (n := 9) rfl
set_option maxRecDepth 100000 in
theorem kCL_4 : ∀ c ∈ strConds "PeepBoxLaw" 133 [], c ∈ flatC (Jvm.Cond.and given_1 narrow_1) := fl_in (i := 636) (n := 4) rfl
set_option maxRecDepth 100000 in
theorem kCL_5 : ∀ c ∈ strConds "PeepBoxLaw" 157 [104, 111, 108, 101], c ∈ flatC (Jvm.Cond.and given_1 narrow_1) := fl_in (i := 641) (n := 8) rfl
set_option maxRecDepth 100000 in
theorem kCL_6 : ∀ c ∈ strConds "PeepBoxLaw" 163 [114, 101, 97, 99, 104], c ∈ flatC (Jvm.Cond.and given_1 narrow_1) := fl_in (i := 650) (n := 9) rfl
set_option maxRecDepth 100000 in
theorem kCL_7 : ∀ c ∈ strConds "PeepBoxLaw" 164 [59, 108, 101, 110, 103, 116, 104], c ∈ flatC (Jvm.Cond.and given_1 narrow_1) := fl_in (i := 660) (n := 11) rfl
set_option maxRecDepth 100000 in
theorem kCL_8 : ∀ c ∈ strConds "PeepBoxLaw" 175 [118, 105, 101, 119, 101, 114], c ∈ flatC (Jvm.Cond.and given_1 narrow_1) := fl_in (i := 671) (n := 10) rfl
set_option maxRecDepth 100000 in
theorem kCL_9 : ∀ c ∈ strConds "PeepBoxLaw" 195 [112, 114, 105, 99, 101, 32], c ∈ flatC (Jvm.Cond.and given_1 narrow_1) := fl_in (i := 682) (n := 10) rfl
set_option maxRecDepth 100000 in
theorem kCL_10 : ∀ c ∈ strConds "PeepBoxLaw" 201 [32, 59], c ∈ flatC (Jvm.Cond.and given_1 narrow_1) := fl_in (i := 731) (n := 6) rfl
set_option maxRecDepth 100000 in
theorem kCL_11 : ∀ c ∈ strConds "PeepBoxLaw$Node" 37 [], c ∈ flatC (Jvm.Cond.and given_1 narrow_1) := fl_in (i := 692) (n := 4) rfl
set_option maxRecDepth 100000 in
theorem kCL_12 : ∀ c ∈ strConds "PeepBoxLaw$Node" 60 [43], c ∈ flatC (Jvm.Cond.and given_1 narrow_1) := fl_in (i := 698) (n := 5) rfl
set_option maxRecDepth 100000 in
theorem kCL_13 : ∀ c ∈ strConds "PeepBoxLaw$Node" 62 [32, 45, 32], c ∈ flatC (Jvm.Cond.and given_1 narrow_1) := fl_in (i := 703) (n := 7) rfl
set_option maxRecDepth 100000 in
theorem kCL_14 : ∀ c ∈ strConds "PeepBoxLaw$Node" 64 [42, 32], c ∈ flatC (Jvm.Cond.and given_1 narrow_1) := fl_in (i := 710) (n := 6) rfl
set_option maxRecDepth 100000 in
theorem kCL_15 : ∀ c ∈ strConds "PeepBoxLaw$Node" 66 [47], c ∈ flatC (Jvm.Cond.and given_1 narrow_1) := fl_in (i := 716) (n := 5) rfl
set_option maxRecDepth 100000 in
theorem kCL_16 : ∀ c ∈ strConds "PeepBoxLaw$Node" 68 [40], c ∈ flatC (Jvm.Cond.and given_1 narrow_1) := fl_in (i := 721) (n := 5) rfl
set_option maxRecDepth 100000 in
theorem kCL_17 : ∀ c ∈ strConds "PeepBoxLaw$Node" 70 [41], c ∈ flatC (Jvm.Cond.and given_1 narrow_1) := fl_in (i := 726) (n := 5) rfl
set_option maxRecDepth 100000 in
theorem kCL_18 : ∀ c ∈ strConds "PeepBoxLaw$Show" 64 [], c ∈ flatC (Jvm.Cond.and given_1 narrow_1) := fl_in (i := 317) (n := 4) rfl
set_option maxRecDepth 100000 in
theorem kCL_19 : ∀ c ∈ strConds "PeepBoxLaw$Show" 73 [46], c ∈ flatC (Jvm.Cond.and given_1 narrow_1) := fl_in (i := 321) (n := 5) rfl
set_option maxRecDepth 100000 in
theorem kCL_20 : ∀ c ∈ strConds "PeepBoxLaw$Show" 75 [97], c ∈ flatC (Jvm.Cond.and given_1 narrow_1) := fl_in (i := 326) (n := 5) rfl
set_option maxRecDepth 100000 in
theorem kCV_0 : ∀ c ∈ strConds "PeepBoxLaw" 284 [115, 104, 111, 119, 110], c ∈ flatC (Jvm.Cond.and given_1 narrow_1) := fl_in (i := 825) (n := 9) rfl
set_option maxRecDepth 100000 in
theorem kCV_1 : ∀ c ∈ strConds "PeepBoxLaw" 285 [107, 105, 110, 100, 115], c ∈ flatC (Jvm.Cond.and given_1 narrow_1) := fl_in (i := 835) (n := 9) rfl
set_option maxRecDepth 100000 in
theorem kCV_2 : ∀ c ∈ strConds "PeepBoxLaw" 287 [100, 101, 112, 116, 104], c ∈ flatC (Jvm.Cond.and given_1 narrow_1) := fl_in (i := 845) (n := 9) rfl
set_option maxRecDepth 100000 in
theorem kCV_3 : ∀ c ∈ strConds "PeepBoxLaw" 157 [104, 111, 108, 101], c ∈ flatC (Jvm.Cond.and given_1 narrow_1) := fl_in (i := 641) (n := 8) rfl
theorem kStrC : ∀ q ∈ kStr, ∀ c ∈ strConds q.1 q.2.1 q.2.2.2, c ∈ flatC (Jvm.Cond.and given_1 narrow_1) := List.forall_mem_cons.mpr ⟨kC_0, List.forall_mem_cons.mpr ⟨kC_1, List.forall_mem_cons.mpr ⟨kC_2, List.forall_mem_cons.mpr ⟨kC_3, List.forall_mem_cons.mpr ⟨kC_4, List.forall_mem_cons.mpr ⟨kC_5, List.forall_mem_cons.mpr ⟨kC_6, List.forall_mem_cons.mpr ⟨kC_7, List.forall_mem_cons.mpr ⟨kC_8, List.forall_mem_cons.mpr ⟨kC_9, List.forall_mem_cons.mpr ⟨kC_10, List.forall_mem_cons.mpr ⟨kC_11, List.forall_mem_cons.mpr ⟨kC_12, List.forall_mem_cons.mpr ⟨kC_13, List.forall_mem_cons.mpr ⟨kC_14, List.forall_mem_cons.mpr ⟨kC_15, List.forall_mem_cons.mpr ⟨kC_16, List.forall_mem_cons.mpr ⟨kC_17, List.forall_mem_cons.mpr ⟨kC_18, List.forall_mem_cons.mpr ⟨kC_19, List.forall_mem_cons.mpr ⟨kC_20, fun _ h => absurd h List.not_mem_nil⟩⟩⟩⟩⟩⟩⟩⟩⟩⟩⟩⟩⟩⟩⟩⟩⟩⟩⟩⟩⟩
theorem kStrCL : ∀ q ∈ kStrL, ∀ c ∈ strConds q.1 q.2.1 q.2.2.2, c ∈ flatC (Jvm.Cond.and given_1 narrow_1) := List.forall_mem_cons.mpr ⟨kCL_0, List.forall_mem_cons.mpr ⟨kCL_1, List.forall_mem_cons.mpr ⟨kCL_2, List.forall_mem_cons.mpr ⟨kCL_3, List.forall_mem_cons.mpr ⟨kCL_4, List.forall_mem_cons.mpr ⟨kCL_5, List.forall_mem_cons.mpr ⟨kCL_6, List.forall_mem_cons.mpr ⟨kCL_7, List.forall_mem_cons.mpr ⟨kCL_8, List.forall_mem_cons.mpr ⟨kCL_9, List.forall_mem_cons.mpr ⟨kCL_10, List.forall_mem_cons.mpr ⟨kCL_11, List.forall_mem_cons.mpr ⟨kCL_12, List.forall_mem_cons.mpr ⟨kCL_13, List.forall_mem_cons.mpr ⟨kCL_14, List.forall_mem_cons.mpr ⟨kCL_15, List.forall_mem_cons.mpr ⟨kCL_16, List.forall_mem_cons.mpr ⟨kCL_17, List.forall_mem_cons.mpr ⟨kCL_18, List.forall_mem_cons.mpr ⟨kCL_19, List.forall_mem_cons.mpr ⟨kCL_20, fun _ h => absurd h List.not_mem_nil⟩⟩⟩⟩⟩⟩⟩⟩⟩⟩⟩⟩⟩⟩⟩⟩⟩⟩⟩⟩⟩
set_option maxRecDepth 100000 in
theorem kStrRef : ∀ q ∈ kStr, Cond.stringRef q.1 q.2.1 q.2.2.1 ∈ lw_tbl := by decide +kernel
set_option maxRecDepth 100000 in
theorem kStrRefL : ∀ q ∈ kStrL, Cond.stringRef q.1 q.2.1 q.2.2.1 ∈ lw_tbl := by decide +kernel
set_option maxRecDepth 100000 in
theorem kRefV_0 : Cond.stringRef "PeepBoxLaw" 284 "shown" ∈ lw_tbl := by decide +kernel
set_option maxRecDepth 100000 in
theorem kRefV_1 : Cond.stringRef "PeepBoxLaw" 285 "kinds" ∈ lw_tbl := by decide +kernel
set_option maxRecDepth 100000 in
theorem kRefV_2 : Cond.stringRef "PeepBoxLaw" 287 "depth" ∈ lw_tbl := by decide +kernel
set_option maxRecDepth 100000 in
theorem kRefV_3 : Cond.stringRef "PeepBoxLaw" 157 "hole" ∈ lw_tbl := by decide +kernel
theorem kStrLen : ∀ q ∈ kStr, q.2.2.2.length < 2 ^ 31 := by decide +kernel
theorem kStrLenL : ∀ q ∈ kStrL, q.2.2.2.length < 2 ^ 31 := by decide +kernel
set_option maxRecDepth 100000 in
theorem kNestIn : ∀ q ∈ kNest, Cond.methodLinkNest q.1 q.2.1 q.2.2.1 q.2.2.2 ∈ lw_tbl := by decide +kernel
set_option maxRecDepth 100000 in
theorem kDeclIn : ∀ Y ∈ kDecl, Cond.declares (Bundle.initS Y) ∈ lw_tbl := by decide +kernel
set_option maxRecDepth 100000 in
theorem kThrownIn : ∀ X ∈ kThrown, Cond.castable X X ∈ lw_tbl := by decide +kernel
set_option maxRecDepth 100000 in
theorem kDigitOnesC : ∀ c ∈ (List.range 100).map (fun j => Cond.eq (.elem (.static "java/lang/Integer" "DigitOnes" "[B") (.int (Int32.ofNat j))) (.int (nI (48 + j % 10)))), c ∈ flatC (Jvm.Cond.and given_1 narrow_1) := fl_in (i := 14) (n := 100) rfl
set_option maxRecDepth 100000 in
theorem kDigitTensC : ∀ c ∈ (List.range 100).map (fun j => Cond.eq (.elem (.static "java/lang/Integer" "DigitTens" "[B") (.int (Int32.ofNat j))) (.int (nI (48 + j / 10)))), c ∈ flatC (Jvm.Cond.and given_1 narrow_1) := fl_in (i := 117) (n := 100) rfl
set_option maxRecDepth 100000 in
theorem kI_0 : (Cond.instantiable RX0 10 : Cond) ∈ lw_tbl := by decide +kernel
set_option maxRecDepth 100000 in
theorem kI_1 : (Cond.instantiable RX1 5 : Cond) ∈ lw_tbl := by decide +kernel
set_option maxRecDepth 100000 in
theorem kI_2 : (Cond.instantiable RX2 3 : Cond) ∈ lw_tbl := by decide +kernel
set_option maxRecDepth 100000 in
theorem kI_3 : (Cond.instantiable RX3 12 : Cond) ∈ lw_tbl := by decide +kernel
set_option maxRecDepth 100000 in
theorem kI_4 : (Cond.instantiable RX4 2 : Cond) ∈ lw_tbl := by decide +kernel
set_option maxRecDepth 100000 in
theorem kI_5 : (Cond.instantiable RX5 5 : Cond) ∈ lw_tbl := by decide +kernel
set_option maxRecDepth 100000 in
theorem kI_6 : (Cond.instantiable RX6 8 : Cond) ∈ lw_tbl := by decide +kernel
set_option maxRecDepth 100000 in
theorem kI_7 : (Cond.instantiable RX7 7 : Cond) ∈ lw_tbl := by decide +kernel
set_option maxRecDepth 100000 in
theorem kI_8 : (Cond.instantiable RX8 4 : Cond) ∈ lw_tbl := by decide +kernel
set_option maxRecDepth 100000 in
theorem kI_9 : (Cond.instantiable RX9 1 : Cond) ∈ lw_tbl := by decide +kernel
set_option maxRecDepth 100000 in
theorem kI_10 : (Cond.instantiable RX10 11 : Cond) ∈ lw_tbl := by decide +kernel
set_option maxRecDepth 100000 in
theorem kI_11 : (Cond.instantiable RJ0 4 : Cond) ∈ lw_tbl := by decide +kernel
set_option maxRecDepth 100000 in
theorem kI_12 : (Cond.instantiable RJ4 4 : Cond) ∈ lw_tbl := by decide +kernel
set_option maxRecDepth 100000 in
theorem kA_0 : (Cond.arrayClass .int : Cond) ∈ lw_tbl := by decide +kernel
set_option maxRecDepth 100000 in
theorem kA_1 : (Cond.arrayClass .byte : Cond) ∈ lw_tbl := by decide +kernel
set_option maxRecDepth 100000 in
theorem kA_2 : (Cond.arrayClass .long : Cond) ∈ lw_tbl := by decide +kernel
set_option maxRecDepth 100000 in
theorem kA_3 : (Cond.arrayOver (.object "PeepBox$Show") : Cond) ∈ lw_tbl := by decide +kernel
set_option maxRecDepth 100000 in
theorem kA_4 : (Cond.arrayOver (.array .int) : Cond) ∈ lw_tbl := by decide +kernel
set_option maxRecDepth 100000 in
theorem kA_5 : (Cond.arrayClass .boolean : Cond) ∈ lw_tbl := by decide +kernel
set_option maxRecDepth 100000 in
theorem kA_6 : (Cond.arrayOver (.object "java/lang/String") : Cond) ∈ lw_tbl := by decide +kernel
set_option maxRecDepth 100000 in
theorem kA_7 : (Cond.arrayOver (.array (.object "java/lang/String")) : Cond) ∈ lw_tbl := by decide +kernel
set_option maxRecDepth 100000 in
theorem kA_8 : (Cond.arrayOver (.object "PeepBoxLaw$Guest") : Cond) ∈ lw_tbl := by decide +kernel
set_option maxRecDepth 100000 in
theorem kA_9 : (Cond.arrayOver (.object "PeepBoxLaw$Show") : Cond) ∈ lw_tbl := by decide +kernel
set_option maxRecDepth 100000 in
theorem kW_0 : (.laysStatic "java/lang/String" "COMPACT_STRINGS" "Z" : Cond) ∈ lw_tbl := by decide +kernel
set_option maxRecDepth 100000 in
theorem kW_1 : (.initialized "java/lang/String" : Cond) ∈ lw_tbl := by decide +kernel
set_option maxRecDepth 100000 in
theorem kW_2 : (.eq (.static "java/lang/String" "COMPACT_STRINGS" "Z") (.int 1) : Cond) ∈ flatC (Jvm.Cond.and given_1 narrow_1) := List.mem_of_getElem? (i := 4) rfl
set_option maxRecDepth 100000 in
theorem kW_3 : (.laysStatic Bundle.tN "UNASSIGNED_STACK" Bundle.steD : Cond) ∈ lw_tbl := by decide +kernel
set_option maxRecDepth 100000 in
theorem kW_4 : (.initialized Bundle.tN : Cond) ∈ lw_tbl := by decide +kernel
set_option maxRecDepth 100000 in
theorem kW_5 : (.isRef (.static Bundle.tN "UNASSIGNED_STACK" Bundle.steD) : Cond) ∈ flatC (Jvm.Cond.and given_1 narrow_1) := List.mem_of_getElem? (i := 9) rfl
set_option maxRecDepth 100000 in
theorem kW_6 : (.laysStatic Bundle.tN "SUPPRESSED_SENTINEL" Bundle.listD : Cond) ∈ lw_tbl := by decide +kernel
set_option maxRecDepth 100000 in
theorem kW_7 : (.isRef (.static Bundle.tN "SUPPRESSED_SENTINEL" Bundle.listD) : Cond) ∈ flatC (Jvm.Cond.and given_1 narrow_1) := List.mem_of_getElem? (i := 10) rfl
set_option maxRecDepth 100000 in
theorem kW_8 : (.laysStatic "jdk/internal/util/Preconditions" "SIOOBE_FORMATTER" "Ljava/util/function/BiFunction;" : Cond) ∈ lw_tbl := by decide +kernel
set_option maxRecDepth 100000 in
theorem kW_9 : (.initialized "jdk/internal/util/Preconditions" : Cond) ∈ lw_tbl := by decide +kernel
set_option maxRecDepth 100000 in
theorem kW_10 : (.isRef (.static "jdk/internal/util/Preconditions" "SIOOBE_FORMATTER" "Ljava/util/function/BiFunction;") : Cond) ∈ flatC (Jvm.Cond.and given_1 narrow_1) := List.mem_of_getElem? (i := 5) rfl
set_option maxRecDepth 100000 in
theorem kW_11 : (.castable "[B" "java/lang/Cloneable" : Cond) ∈ lw_tbl := by decide +kernel
set_option maxRecDepth 100000 in
theorem kW_12 : (.castable "[I" "java/lang/Cloneable" : Cond) ∈ lw_tbl := by decide +kernel
set_option maxRecDepth 100000 in
theorem kW_13 : (.laysStatic "java/lang/Integer" "DigitOnes" "[B" : Cond) ∈ lw_tbl := by decide +kernel
set_option maxRecDepth 100000 in
theorem kW_14 : (.initialized "java/lang/Integer" : Cond) ∈ lw_tbl := by decide +kernel
set_option maxRecDepth 100000 in
theorem kW_15 : (.arrayOf (.static "java/lang/Integer" "DigitOnes" "[B") .byte : Cond) ∈ flatC (Jvm.Cond.and given_1 narrow_1) := List.mem_of_getElem? (i := 12) rfl
set_option maxRecDepth 100000 in
theorem kW_16 : (.eq (.length (.static "java/lang/Integer" "DigitOnes" "[B")) (.int 100) : Cond) ∈ flatC (Jvm.Cond.and given_1 narrow_1) := List.mem_of_getElem? (i := 13) rfl
set_option maxRecDepth 100000 in
theorem kW_17 : (.laysStatic "java/lang/Integer" "DigitTens" "[B" : Cond) ∈ lw_tbl := by decide +kernel
set_option maxRecDepth 100000 in
theorem kW_18 : (.arrayOf (.static "java/lang/Integer" "DigitTens" "[B") .byte : Cond) ∈ flatC (Jvm.Cond.and given_1 narrow_1) := List.mem_of_getElem? (i := 115) rfl
set_option maxRecDepth 100000 in
theorem kW_19 : (.eq (.length (.static "java/lang/Integer" "DigitTens" "[B")) (.int 100) : Cond) ∈ flatC (Jvm.Cond.and given_1 narrow_1) := List.mem_of_getElem? (i := 116) rfl
set_option maxRecDepth 100000 in
theorem kW_20 : (.laysStatic "PeepBoxLaw" "VARIABLES" "[Ljava/lang/String;" : Cond) ∈ lw_tbl := by decide +kernel
set_option maxRecDepth 100000 in
theorem kW_21 : (.initialized "PeepBoxLaw" : Cond) ∈ lw_tbl := by decide +kernel
set_option maxRecDepth 100000 in
theorem kW_22 : (.arrayOf (.static "PeepBoxLaw" "VARIABLES" "[Ljava/lang/String;") (.object "java/lang/String") : Cond) ∈ flatC (Jvm.Cond.and given_1 narrow_1) := List.mem_of_getElem? (i := 218) rfl
set_option maxRecDepth 100000 in
theorem kW_23 : (.eq (.length (.static "PeepBoxLaw" "VARIABLES" "[Ljava/lang/String;")) (.int 4) : Cond) ∈ flatC (Jvm.Cond.and given_1 narrow_1) := List.mem_of_getElem? (i := 219) rfl
set_option maxRecDepth 100000 in
theorem kW_24 : (.eq (.elem (.static "PeepBoxLaw" "VARIABLES" "[Ljava/lang/String;") (.int 0)) (.string "PeepBoxLaw" 284) : Cond) ∈ flatC (Jvm.Cond.and given_1 narrow_1) := List.mem_of_getElem? (i := 220) rfl
set_option maxRecDepth 100000 in
theorem kW_25 : (.eq (.elem (.static "PeepBoxLaw" "VARIABLES" "[Ljava/lang/String;") (.int 1)) (.string "PeepBoxLaw" 285) : Cond) ∈ flatC (Jvm.Cond.and given_1 narrow_1) := List.mem_of_getElem? (i := 221) rfl
set_option maxRecDepth 100000 in
theorem kW_26 : (.eq (.elem (.static "PeepBoxLaw" "VARIABLES" "[Ljava/lang/String;") (.int 2)) (.string "PeepBoxLaw" 287) : Cond) ∈ flatC (Jvm.Cond.and given_1 narrow_1) := List.mem_of_getElem? (i := 222) rfl
set_option maxRecDepth 100000 in
theorem kW_27 : (.eq (.elem (.static "PeepBoxLaw" "VARIABLES" "[Ljava/lang/String;") (.int 3)) (.string "PeepBoxLaw" 157) : Cond) ∈ flatC (Jvm.Cond.and given_1 narrow_1) := List.mem_of_getElem? (i := 223) rfl
set_option maxRecDepth 100000 in
theorem kW_28 : (.fieldLinkNest RX8 50 "PeepBoxLaw" "VARIABLES" "[Ljava/lang/String;" "PeepBoxLaw" : Cond) ∈ lw_tbl := by decide +kernel
set_option maxRecDepth 100000 in
theorem kW_29 : (.classLink RX10 22 "[Ljava/lang/String;" : Cond) ∈ lw_tbl := by decide +kernel
set_option maxRecDepth 100000 in
theorem kW_30 : (.classLink RX10 63 "[[Ljava/lang/String;" : Cond) ∈ lw_tbl := by decide +kernel
set_option maxRecDepth 100000 in
theorem kW_31 : (.not (.castable (kXn 2) (kXn 1)) : Cond) ∈ flatC (Jvm.Cond.and given_1 narrow_1) := List.mem_of_getElem? (i := 250) rfl
set_option maxRecDepth 100000 in
theorem kW_32 : (.not (.castable (kXn 3) (kXn 1)) : Cond) ∈ flatC (Jvm.Cond.and given_1 narrow_1) := List.mem_of_getElem? (i := 251) rfl
set_option maxRecDepth 100000 in
theorem kW_33 : (.not (.castable (kXn 3) (kXn 2)) : Cond) ∈ flatC (Jvm.Cond.and given_1 narrow_1) := List.mem_of_getElem? (i := 236) rfl
set_option maxHeartbeats 1200000 in
set_option maxRecDepth 100000 in
theorem EZ_start {s : State} {b : Nat} (hts : ∀ w ∈ lw_tbl, w.before #[Value.ref b] s = true) (hgv : (Jvm.Cond.and given_1 narrow_1).before #[Value.ref b] s = true) : ∃ (D : va_G) (cy : Nat → ClassId) (ad : Nat → Nat), EZ D cy ad (fun q => s.heap.size ≤ q) s s.heap := by
  have hs := flat_of_before _ hgv
  have hA : ∀ a : Nat, a < s.heap.size → ¬ (fun q : Nat => s.heap.size ≤ q) a := fun a h => Nat.not_le.mpr h
  obtain ⟨c0, i0, hn0⟩ := u_known (C := RX0) (T := TX0) (N := 10) (n := 10) hts inX0 (hts _ kI_0)
  obtain ⟨c1, i1, hn1⟩ := u_known (C := RX1) (T := TX1) (N := 5) (n := 5) hts inX1 (hts _ kI_1)
  obtain ⟨c2, i2, hn2⟩ := u_known (C := RX2) (T := TX2) (N := 3) (n := 3) hts inX2 (hts _ kI_2)
  obtain ⟨c3, i3, hn3⟩ := u_known (C := RX3) (T := TX3) (N := 12) (n := 12) hts inX3 (hts _ kI_3)
  obtain ⟨c4, i4, hn4⟩ := u_known (C := RX4) (T := TX4) (N := 2) (n := 2) hts inX4 (hts _ kI_4)
  obtain ⟨c5, i5, hn5⟩ := u_known (C := RX5) (T := TX5) (N := 5) (n := 5) hts inX5 (hts _ kI_5)
  obtain ⟨c6, i6, hn6⟩ := u_known (C := RX6) (T := TX6) (N := 8) (n := 8) hts inX6 (hts _ kI_6)
  obtain ⟨c7, i7, hn7⟩ := u_known (C := RX7) (T := TX7) (N := 7) (n := 7) hts inX7 (hts _ kI_7)
  obtain ⟨c8, i8, hn8⟩ := u_known (C := RX8) (T := TX8) (N := 4) (n := 4) hts inX8 (hts _ kI_8)
  obtain ⟨c9, i9, hn9⟩ := u_known (C := RX9) (T := TX9) (N := 1) (n := 1) hts inX9 (hts _ kI_9)
  obtain ⟨c10, i10, hn10⟩ := u_known (C := RX10) (T := TX10) (N := 11) (n := 11) hts inX10 (hts _ kI_10)
  obtain ⟨c11, i11, hn11⟩ := u_known (C := RJ0) (T := TJ0) (N := 4) (n := 4) hts inJ0 (hts _ kI_11)
  obtain ⟨c12, i12, hn12⟩ := u_known (C := RJ4) (T := TJ4) (N := 4) (n := 4) hts inJ4 (hts _ kI_12)
  obtain ⟨y0, hy0, hz0⟩ := k_arr (ty := .int) (hts _ kA_0)
  obtain ⟨y1, hy1, hz1⟩ := k_arr (ty := .byte) (hts _ kA_1)
  obtain ⟨y2, hy2, hz2⟩ := k_arr (ty := .long) (hts _ kA_2)
  obtain ⟨y3, hy3, hz3⟩ := k_arrq (C := "PeepBox$Show") (hts _ kA_3)
  obtain ⟨y4, hy4, hz4⟩ := k_arrr (t := .int) (hts _ kA_4)
  obtain ⟨y5, hy5, hz5⟩ := k_arr (ty := .boolean) (hts _ kA_5)
  obtain ⟨y6, hy6, hz6⟩ := k_arrq (C := "java/lang/String") (hts _ kA_6)
  obtain ⟨y7, hy7, hz7⟩ := k_arrr (t := .object "java/lang/String") (hts _ kA_7)
  obtain ⟨y8, hy8, hz8⟩ := k_arrq (C := "PeepBoxLaw$Guest") (hts _ kA_8)
  obtain ⟨y9, hy9, hz9⟩ := k_arrq (C := "PeepBoxLaw$Show") (hts _ kA_9)
  obtain ⟨v0, g0, k0⟩ := kStrOf2 (A := fun q => s.heap.size ≤ q) (by decide) (fun c hc => hs _ (kCV_0 c hc)) (hts _ kRefV_0) hA
  obtain ⟨v1, g1, k1⟩ := kStrOf2 (A := fun q => s.heap.size ≤ q) (by decide) (fun c hc => hs _ (kCV_1 c hc)) (hts _ kRefV_1) hA
  obtain ⟨v2, g2, k2⟩ := kStrOf2 (A := fun q => s.heap.size ≤ q) (by decide) (fun c hc => hs _ (kCV_2 c hc)) (hts _ kRefV_2) hA
  obtain ⟨v3, g3, k3⟩ := kStrOf2 (A := fun q => s.heap.size ≤ q) (by decide) (fun c hc => hs _ (kCV_3 c hc)) (hts _ kRefV_3) hA
  have d1 : ∃ t : Nat, va_Z "java/lang/Integer" "DigitOnes" "[B" (.ref t) (fun q => s.heap.size ≤ q) s s.heap ∧ va_T .byte t 100 (fun j => .int (nI (48 + j % 10))) (fun q => s.heap.size ≤ q) s s.heap := by
    obtain ⟨t, e1, e2⟩ := va_Tof (N := 100) (f := fun j => .int (nI (48 + j % 10))) (A := fun q => s.heap.size ≤ q) (by decide) (hs _ kW_15) (va_eqt (hs _ kW_16)) (fun j hj => va_eqt (hs _ (kDigitOnesC _ (List.mem_map.mpr ⟨j, List.mem_range.mpr hj, rfl⟩)))) hA
    exact ⟨t, va_Zof (hts _ kW_13) (hts _ kW_14) e1 hA, e2⟩
  have d2 : ∃ t : Nat, va_Z "java/lang/Integer" "DigitTens" "[B" (.ref t) (fun q => s.heap.size ≤ q) s s.heap ∧ va_T .byte t 100 (fun j => .int (nI (48 + j / 10))) (fun q => s.heap.size ≤ q) s s.heap := by
    obtain ⟨t, e1, e2⟩ := va_Tof (N := 100) (f := fun j => .int (nI (48 + j / 10))) (A := fun q => s.heap.size ≤ q) (by decide) (hs _ kW_18) (va_eqt (hs _ kW_19)) (fun j hj => va_eqt (hs _ (kDigitTensC _ (List.mem_map.mpr ⟨j, List.mem_range.mpr hj, rfl⟩)))) hA
    exact ⟨t, va_Zof (hts _ kW_17) (hts _ kW_14) e1 hA, e2⟩
  obtain ⟨D, eD⟩ : ∃ z : va_G, z = (fun k => [c0, c1, c2, c3, c4, c5, c6, c7, c8, c9, c10, c11, c12].getD k 0, fun k => [i0, i1, i2, i3, i4, i5, i6, i7, i8, i9, i10, i11, i12].getD k (fun _ => 0)) := ⟨_, rfl⟩
  obtain ⟨cy, ecy⟩ : ∃ z : Nat → ClassId, z = fun k => [y0, y1, y2, y3, y4, y5, y6, y7, y8, y9].getD k 0 := ⟨_, rfl⟩
  have hEN : EN D cy (fun q => s.heap.size ≤ q) s s.heap := by
    refine ⟨⟨?_, ?_⟩, ?_, ?_, ?_, ?_, ?_, ?_, ?_, ?_, ?_⟩
    · intro k q hq
      rw [eD]
      match k, hq with
      | 0, hq => cases hq; exact hn0
      | 1, hq => cases hq; exact hn1
      | 2, hq => cases hq; exact hn2
      | 3, hq => cases hq; exact hn3
      | 4, hq => cases hq; exact hn4
      | 5, hq => cases hq; exact hn5
      | 6, hq => cases hq; exact hn6
      | 7, hq => cases hq; exact hn7
      | 8, hq => cases hq; exact hn8
      | 9, hq => cases hq; exact hn9
      | 10, hq => cases hq; exact hn10
      | 11, hq => cases hq; exact hn11
      | 12, hq => cases hq; exact hn12
      | k + 13, hq => simp [vwCl] at hq
    · intro k q hq
      rw [ecy] at hq
      match k, hq with
      | 0, hq => cases hq; exact ⟨hy0, hz0⟩
      | 1, hq => cases hq; exact ⟨hy1, hz1⟩
      | 2, hq => cases hq; exact ⟨hy2, hz2⟩
      | 3, hq => cases hq; exact ⟨hy3, hz3⟩
      | 4, hq => cases hq; exact ⟨hy4, hz4⟩
      | 5, hq => cases hq; exact ⟨hy5, hz5⟩
      | 6, hq => cases hq; exact ⟨hy6, hz6⟩
      | 7, hq => cases hq; exact ⟨hy7, hz7⟩
      | 8, hq => cases hq; exact ⟨hy8, hz8⟩
      | 9, hq => cases hq; exact ⟨hy9, hz9⟩
      | k + 10, hq => simp [kTys] at hq
    · exact fun q hq => va_Nw.of rfl (hts _ (kNestIn q hq))
    · exact fun q hq => kStrOf (kStrLen q hq) (fun c hc => hs _ (kStrC q hq c hc)) (hts _ (kStrRef q hq)) hA
    · exact va_Zof (hts _ kW_0) (hts _ kW_1) (va_eqt (hs _ kW_2)) hA
    · exact vx_Zqof (hts _ kW_3) (hts _ kW_4) (hs _ kW_5) hA
    · exact vx_Zqof (hts _ kW_6) (hts _ kW_4) (hs _ kW_7) hA
    · exact va_AO.of (hts _ kA_3)
    · exact fun X hX => va_Nw.of rfl (hts _ (kThrownIn X hX))
    · exact va_Zqof (hts _ kW_8) (hts _ kW_9) (hs _ kW_10) hA
    · exact fun Y hY => va_Nw.of rfl (hts _ (kDeclIn Y hY))
  have hEL : EL D cy (fun q => s.heap.size ≤ q) s s.heap := ⟨hEN, va_Nw.of rfl (hts _ kW_11), va_Nw.of rfl (hts _ kW_12), va_AO.of (hts _ kA_6), va_AO.of (hts _ kA_8), va_AO.of (hts _ kA_9), va_AOA.of (hts _ kA_4), va_AOA.of (hts _ kA_7), fun q hq => kStrOf (kStrLenL q hq) (fun c hc => hs _ (kStrCL q hq c hc)) (hts _ (kStrRefL q hq)) hA⟩
  have hV : kVars (fun j => [v0, v1, v2, v3].getD j 0) (fun q => s.heap.size ≤ q) s s.heap := by
    obtain ⟨t, e1, e2⟩ := va_Tof (N := 4) (f := fun j => .ref ([v0, v1, v2, v3].getD j 0)) (A := fun q => s.heap.size ≤ q) (by decide) (hs _ kW_22) (va_eqt (hs _ kW_23)) (fun j hj => by
      match j, hj with
      | 0, _ => exact Cond.eq_refs (hs _ kW_24) g0 rfl
      | 1, _ => exact Cond.eq_refs (hs _ kW_25) g1 rfl
      | 2, _ => exact Cond.eq_refs (hs _ kW_26) g2 rfl
      | 3, _ => exact Cond.eq_refs (hs _ kW_27) g3 rfl) hA
    refine ⟨t, va_Zof (hts _ kW_20) (hts _ kW_21) e1 hA, e2, fun j hj => ?_⟩
    match j, hj with
    | 0, _ => exact k0
    | 1, _ => exact k1
    | 2, _ => exact k2
    | 3, _ => exact k3
  exact ⟨D, cy, _, ⟨hEL, ⟨d1, d2⟩, hV, va_Nw.of rfl (hts _ kW_28)⟩, ⟨hEL, va_Nw.of rfl (hts _ kW_29), va_Nw.of rfl (hts _ kW_30)⟩, ⟨hEN, va_Nc.of (hs _ kW_31), va_Nc.of (hs _ kW_32), va_Nc.of (hs _ kW_33)⟩⟩
