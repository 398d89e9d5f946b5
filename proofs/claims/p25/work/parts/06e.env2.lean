/-! the environment of the law's own methods: EN and what the law's classes ask beside it -/
theorem va_AOA.moved {ty : FieldType} {u U : State} (hvm : u.vm.Alike U.vm) (h : va_AOA ty u) : va_AOA ty U := Jvm.Stand.arrayOver_alikeB hvm h
def kStrL : List (String × Nat × String × List Int32) := [("PeepBoxLaw", 100, " ", [32]), ("PeepBoxLaw", 120, "box", [98, 111, 120]), ("PeepBoxLaw", 126, ";", [59]), ("PeepBoxLaw", 132, "plane", [112, 108, 97, 110, 101]), ("PeepBoxLaw", 133, "", []), ("PeepBoxLaw", 157, "hole", [104, 111, 108, 101]), ("PeepBoxLaw", 163, "reach", [114, 101, 97, 99, 104]), ("PeepBoxLaw", 164, ";length", [59, 108, 101, 110, 103, 116, 104]), ("PeepBoxLaw", 175, "viewer", [118, 105, 101, 119, 101, 114]), ("PeepBoxLaw", 195, "price ", [112, 114, 105, 99, 101, 32]), ("PeepBoxLaw", 201, " ;", [32, 59]), ("PeepBoxLaw$Node", 37, "", []), ("PeepBoxLaw$Node", 60, "+", [43]), ("PeepBoxLaw$Node", 62, " - ", [32, 45, 32]), ("PeepBoxLaw$Node", 64, "* ", [42, 32]), ("PeepBoxLaw$Node", 66, "/", [47]), ("PeepBoxLaw$Node", 68, "(", [40]), ("PeepBoxLaw$Node", 70, ")", [41]), ("PeepBoxLaw$Show", 64, "", []), ("PeepBoxLaw$Show", 73, ".", [46]), ("PeepBoxLaw$Show", 75, "a", [97])]
def EL (D : va_G) (cy : Nat → ClassId) (A : Nat → Prop) (U : State) (H : Heap) : Prop := EN D cy A U H ∧ va_Nw (.castable "[B" "java/lang/Cloneable") U ∧ va_Nw (.castable "[I" "java/lang/Cloneable") U ∧ va_AO "java/lang/String" U ∧ va_AO "PeepBoxLaw$Guest" U ∧ va_AO "PeepBoxLaw$Show" U ∧ va_AOA .int U ∧ va_AOA (.object "java/lang/String") U ∧ ∀ q ∈ kStrL, ∃ a : Nat, vk_R q.1 q.2.1 q.2.2.1 a U ∧ kStrAt q.2.2.2 a A U H
theorem EL_ok (D : va_G) (cy : Nat → ClassId) : EOK (EL D cy) := by
  intro A B s U H0 H h hq hAB hW
  obtain ⟨h1, h2, h3, h4, h5, h6, h7, h8, h9⟩ := h
  refine ⟨EN_ok D cy A B s U H0 H h1 hq hAB hW, va_Nw.warmC hW h2, va_Nw.warmC hW h3, va_AO.moved hW.alike h4, va_AO.moved hW.alike h5, va_AO.moved hW.alike h6, va_AOA.moved hW.alike h7, va_AOA.moved hW.alike h8, fun q hk => ?_⟩
  obtain ⟨a, g1, g2⟩ := h9 q hk
  exact ⟨a, vk_R.warm hW g1, g2.go hq hAB hW.alike⟩
/-- the bytes of a row fit -/
theorem kfitB {c : ClassId} {n : Nat} {f : Nat → Int32} (hf : sb_Fit f) : ∀ (i : Nat) (v : Value), (vp_cell c (n, .inl f)).slots[i]? = some v → fits .byte v = true := by
  intro i v h
  have h1 : (arrV c n (fun j => .int (f j))).slots[i]? = some v := h
  by_cases hi : i < n
  · rw [arrV_read _ _ hi] at h1
    rw [← Option.some.inj h1]; exact hf i
  · have h2 : (arrV c n (fun j => .int (f j))).slots.size = n := arrV_size _ _ _
    rw [Array.getElem?_eq_none (by omega)] at h1
    cases h1
/-- a String among the cells, as a String constant stands -/
theorem kStr_of {Ts : List Cond} {args : Array Value} {D : va_G} {cy : Nat → ClassId} {tx : List Int32} {a v : Nat} {h1 h2 : Value} {f : Nat → Int32} {A : Nat → Prop} {U : State} {H : Heap} (hts : ∀ w ∈ Ts, w.before args U = true) (hin : ∀ w ∈ u_ws RJ0 TJ0 4, w ∈ Ts) (hK : va_K D vwCl (kTys cy) U) (hs : ro D a (.inr (11, [.ref v, .int (0 : Int32), h1, h2])) A H) (hv : ro D v (.inl (cy 1, tx.length, .inl f)) A H) (hf : ∀ j, j < tx.length → f j = tx.getD j 0) : kStrAt tx a A U H := by
  obtain ⟨⟨r, hr, cell, e1, e2, e3, e4⟩, hA⟩ := hs
  obtain rfl : r = (RJ0, TJ0, 4) := (Option.some.inj hr).symm
  have hKn := hK.1 11 _ rfl
  have hcls : U.vm.findClass "java/lang/String" = some cell.cls := by rw [e2]; exact hKn.2.1
  obtain ⟨hfc, kC, hkC, hkind⟩ := hKn.2
  have fld : ∀ k : Nat, k < 4 → ∃ (cf : ClassId) (kf : Class) (i : Nat) (g : Field), U.fieldFound? (TJ0 k).1 (TJ0 k).2.1 (TJ0 k).2.2.1 = some (cf, kf, i, g) ∧ g.isStatic = false ∧ cell.slots[g.slot]? = some (vp_V [.ref v, .int (0 : Int32), h1, h2] k) := by
    intro k hk
    obtain ⟨cf, kf, fi, g, hi, hsl⟩ := hKn.1 k hk
    exact ⟨cf, kf, fi, g, hi, (u_facts hfc hkC (u_lays hts hin hk) hi).1, by rw [hsl]; exact e4 k hk⟩
  have hst : cell.vm.isStatics = false := by rw [e3]; rfl
  have hun : cell.vm ≠ .unknown := by rw [e3]; exact fun h => by cases h
  refine ⟨⟨cell, e1, hst, hcls, hA⟩, ?_, v, ?_, ?_⟩
  · obtain ⟨cf, kf, i, g, q1, q2, q3⟩ := fld 1 (by decide)
    exact ⟨cf, kf, i, g, cell, q1, q2, e1, hun, q3, hA⟩
  · obtain ⟨cf, kf, i, g, q1, q2, q3⟩ := fld 0 (by decide)
    exact ⟨cf, kf, i, g, cell, q1, q2, e1, hun, q3, hA⟩
  · have hc : H[v]? = some (arrV (cy 1) tx.length (fun j => .int (f j))) := hv.1
    refine ⟨_, hc, (hK.2 1 _ rfl).1 _ _, (fun h => by cases h), by rw [arrV_size]; exact Nat.le_refl _, by rw [arrV_size], fun j hj => ?_, hv.2⟩
    rw [arrV_read _ _ hj, hf j hj]
