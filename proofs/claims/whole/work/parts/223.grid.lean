/-! an array of arrays of int is made -/
theorem va_AOA.moved {ty : FieldType} {u U : State} (hvm : u.vm.Alike U.vm) (h : va_AOA ty u) : va_AOA ty U := Jvm.Stand.arrayOver_alikeB hvm h
def E9 (D : va_G) (cy : Nat → ClassId) (A : Nat → Prop) (U : State) (H : Heap) : Prop := EN D cy A U H ∧ va_AOA .int U
theorem E9_ok (D : va_G) (cy : Nat → ClassId) : EOK (E9 D cy) := fun A B s U H0 H h hq hAB hW => ⟨EN_ok D cy A B s U H0 H h.1 hq hAB hW, h.2.moved hW.alike⟩
section KG
variable {p : Program} {l : Launch} {e : Env} {R : Room} {s : State} {m : MethodId} {args : Array Value} {below : List Frame} {meth : Method} {c : Code} {H : Heap} {locs : List Loc} {cells slots : Nat} {Q : State → Prop}
variable {cc : ByteArray} {pc : Nat} {ls : Array Slot} {rest : List Value} {D : va_G} {A : Nat → Prop} {ws : va_W} {cy : Nat → ClassId}
theorem kn_rows8 (r : Nat → Nat) : (fun i => if i < 8 then some (r i) else none) = (fun i => [some (r 0), some (r 1), some (r 2), some (r 3), some (r 4), some (r 5), some (r 6), some (r 7)].getD i none) := by
  funext i
  match i with
  | 0 => rfl
  | 1 => rfl
  | 2 => rfl
  | 3 => rfl
  | 4 => rfl
  | 5 => rfl
  | 6 => rfl
  | 7 => rfl
  | n + 8 => exact if_neg (by omega)
set_option maxRecDepth 100000 in
theorem kn_mna {own : String} {index : Nat} (hexec : p.tables.exec = Jvm.exec) (hb : c.code = cc) (hown : s.vm.findClass own = some m.cls) (hclink : (Cond.classLink own index "[[I").before args s = true) (hover : va_AOA .int s) (harr : (Cond.arrayClass .int).before args s = true) (hK : va_K D vwCl (kTys cy) s) (hP : va_P D vwCl ws H) (hD : va_D A ws) (hS : va_S A s.heap H locs) (hA : ∀ q, s.heap.size ≤ q → A q)
    (hcells : cells + (1 + 8) ≤ R.cells) (hslots : slots + (8 + 8 * 2243) ≤ R.slots) (hdg : decode cc pc = .ok (.multianewarray index 2, 4))
    (kk : ∀ (q : Nat) (r : Nat → Nat) (H1 : Heap), va_P D vwCl (ws ++ [(q, .inl (cy 4, 8, .inr (.inr (.inr (.inr (fun i => [some (r 0), some (r 1), some (r 2), some (r 3), some (r 4), some (r 5), some (r 6), some (r 7)].getD i none)))))), (r 0, .inl (cy 0, 2243, .inl (fun _ => 0))), (r 1, .inl (cy 0, 2243, .inl (fun _ => 0))), (r 2, .inl (cy 0, 2243, .inl (fun _ => 0))), (r 3, .inl (cy 0, 2243, .inl (fun _ => 0))), (r 4, .inl (cy 0, 2243, .inl (fun _ => 0))), (r 5, .inl (cy 0, 2243, .inl (fun _ => 0))), (r 6, .inl (cy 0, 2243, .inl (fun _ => 0))), (r 7, .inl (cy 0, 2243, .inl (fun _ => 0)))]) H1 → va_D A (ws ++ [(q, .inl (cy 4, 8, .inr (.inr (.inr (.inr (fun i => [some (r 0), some (r 1), some (r 2), some (r 3), some (r 4), some (r 5), some (r 6), some (r 7)].getD i none)))))), (r 0, .inl (cy 0, 2243, .inl (fun _ => 0))), (r 1, .inl (cy 0, 2243, .inl (fun _ => 0))), (r 2, .inl (cy 0, 2243, .inl (fun _ => 0))), (r 3, .inl (cy 0, 2243, .inl (fun _ => 0))), (r 4, .inl (cy 0, 2243, .inl (fun _ => 0))), (r 5, .inl (cy 0, 2243, .inl (fun _ => 0))), (r 6, .inl (cy 0, 2243, .inl (fun _ => 0))), (r 7, .inl (cy 0, 2243, .inl (fun _ => 0)))]) → va_S A s.heap H1 locs →
      W p l e R s m args below meth c H1 locs (cells + 1 + 8) (slots + 8 + 8 * 2243) Q (F0 m (pc + 4) ls (.ref q :: rest))) : W p l e R s m args below meth c H locs cells slots Q (F0 m pc ls (.int 2243 :: .int 8 :: rest)) := by
  have e0 : ∀ f : Nat → va_E, ws ++ va_pl [] f = ws := fun f => List.append_nil ws
  have hcy : s.vm.findClass (FieldType.array .int).toString = some (cy 0) := (hK.2 0 _ rfl).2
  refine va_mna (X := ws) (L := []) (f := fun _ => .inr (0, [])) (ty := .int) (cy := cy 0) (N' := 8) (K' := 2243) (z := (2243, .inl (fun _ => 0))) hexec hb hown hclink hover harr hcy hK (by rw [e0]; exact hP) (by rw [e0]; exact hD) hS hA (by decide) (by decide) (by decide) (by decide) (Nat.le_of_ble_eq_true rfl) (Nat.le_of_ble_eq_true rfl) (Nat.le_of_ble_eq_true rfl) rfl rfl hcells hslots (fun c9 => arrV_new c9 2243 (.int 0)) hdg (fun q r cA H1 _ _ hK1 hP1 hD1 hS1 => ?_)
  have h1 : s.vm.findClass ("[" ++ (FieldType.array .int).toString) = some cA := (hK1.2 5 _ rfl).2
  have h2 : s.vm.findClass ("[" ++ (FieldType.array .int).toString) = some (cy 4) := (hK.2 4 _ rfl).2
  have h3 : cA = cy 4 := Option.some.inj (h1.symm.trans h2)
  subst h3
  have e1 : va_pl ([] ++ (List.range 8).map r) (vr_up (fun _ => .inr (0, [])) ((List.range 8).map r) (.inl (cy 0, 2243, .inl (fun _ => 0)))) = ((List.range 8).map r).map (fun a => ((a, .inl (cy 0, 2243, .inl (fun _ => 0))) : Nat × va_E)) := by
    rw [← vr_rows (fun a _ => List.not_mem_nil)]
    exact List.nil_append _
  rw [e1, List.append_assoc, kn_rows8] at hP1 hD1
  exact kk q r H1 hP1 hD1 hS1
end KG
