/-! rows for the law's objects: arrays of references, pools of cells by their numbers -/
/-- n cells: the addresses r, the contents e -/
def rl (n : Nat) (r : Nat → Nat) (e : Nat → va_E) : va_W := (List.range n).map (fun i => (r i, e i))
theorem rl_len (n : Nat) (r : Nat → Nat) (e : Nat → va_E) : (rl n r e).length = n := by simp [rl]
theorem rl_at {n k : Nat} {r : Nat → Nat} {e : Nat → va_E} (h : k < n) : (rl n r e)[k]? = some (r k, e k) := by simp [rl, List.getElem?_range, h]
theorem rl_get {X : va_W} {n k : Nat} {r : Nat → Nat} {e : Nat → va_E} (h : k < n) : (X ++ rl n r e)[X.length + k]? = some (r k, e k) := by
  rw [List.getElem?_append_right (by omega), show X.length + k - X.length = k by omega, rl_at h]
theorem rl_set {X : va_W} {n k : Nat} {r : Nat → Nat} {e : Nat → va_E} {x : va_E} (h : k < n) : (X ++ rl n r e).set (X.length + k) (r k, x) = X ++ rl n r (fun i => if i = k then x else e i) := by
  apply List.ext_getElem?
  intro j
  rw [List.getElem?_set]
  by_cases h1 : X.length + k = j
  · subst h1
    rw [if_pos rfl, if_pos (by rw [List.length_append, rl_len]; omega), rl_get h, if_pos rfl]
  · rw [if_neg h1]
    by_cases h2 : j < X.length
    · rw [List.getElem?_append_left h2, List.getElem?_append_left h2]
    · rw [List.getElem?_append_right (by omega), List.getElem?_append_right (by omega)]
      by_cases h3 : j - X.length < n
      · rw [rl_at h3, rl_at h3, if_neg (by omega)]
      · rw [List.getElem?_eq_none (by rw [rl_len]; omega), List.getElem?_eq_none (by rw [rl_len]; omega)]
theorem rl_congr {n : Nat} {r r' : Nat → Nat} {e e' : Nat → va_E} (h : ∀ i, i < n → r i = r' i ∧ e i = e' i) : rl n r e = rl n r' e' := by
  apply List.map_congr_left
  intro i hi
  rw [(h i (List.mem_range.mp hi)).1, (h i (List.mem_range.mp hi)).2]
theorem rl_push (n : Nat) (r : Nat → Nat) (e : Nat → va_E) : rl (n + 1) r e = rl n r e ++ [(r n, e n)] := by simp [rl, List.range_succ]
/-- what an array of references holds behind its end is nobody's business -/
theorem refs_cell {c : ClassId} {n : Nat} {f g : Nat → Option Nat} (h : ∀ i, i < n → f i = g i) : vp_cell c (n, .inr (.inr (.inr (.inr f)))) = vp_cell c (n, .inr (.inr (.inr (.inr g)))) := by
  show arrV c n (fun j => va_rf (f j)) = arrV c n (fun j => va_rf (g j))
  have e : (Array.ofFn (n := n) fun j => va_rf (f j.val)) = (Array.ofFn (n := n) fun j => va_rf (g j.val)) := by
    congr 1
    funext j
    rw [h j.val j.isLt]
  show ({ cls := c, slots := Array.ofFn (n := n) fun j => va_rf (f j.val), vm := .none } : Cell) = _
  rw [e]; rfl
theorem refs_refit {D : va_G} {cl : List vw_C} {A : Nat → Prop} {ws : va_W} {H : Heap} {k q n : Nat} {c : ClassId} {f g : Nat → Option Nat} (hP : va_P D cl ws H) (hD : va_D A ws) (hk : ws[k]? = some (q, .inl (c, n, .inr (.inr (.inr (.inr f)))))) (h : ∀ i, i < n → f i = g i) : va_P D cl (ws.set k (q, .inl (c, n, .inr (.inr (.inr (.inr g)))))) H ∧ va_D A (ws.set k (q, .inl (c, n, .inr (.inr (.inr (.inr g)))))) :=
  ⟨hP.set hD hk (show H[q]? = some (vp_cell c (n, .inr (.inr (.inr (.inr g))))) from by rw [← refs_cell h]; exact hP k _ hk) (fun _ _ => rfl), hD.set hk⟩
/-- the same cells in another order, or fewer of them -/
theorem va_P.of {D : va_G} {cl : List vw_C} {ws ws2 : va_W} {H : Heap} (h : va_P D cl ws H) (hm : ∀ x ∈ ws2, x ∈ ws) : va_P D cl ws2 H := fun k q hk => by
  obtain ⟨j, hj⟩ := List.getElem?_of_mem (hm q (List.mem_of_getElem? hk))
  exact h j q hj
section KW
variable {p : Program} {l : Launch} {e : Env} {R : Room} {s : State} {m : MethodId} {args : Array Value} {below : List Frame} {meth : Method} {c : Code} {H : Heap} {locs : List Loc} {cells slots : Nat} {Q : State → Prop}
variable {cc : ByteArray} {pc : Nat} {ls : Array Slot} {rest : List Value} {D : va_G} {cl : List vw_C} {A : Nat → Prop} {a : Nat} {tys : List (ClassId × FieldType)} {ws : va_W} {H0 : Heap} {cy : Nat → ClassId}
/-- an array of arrays, its places null -/
theorem kn_newA {ty : FieldType} {own : String} {index : Nat} {cA : ClassId} (t0 : Nat) (hexec : p.tables.exec = Jvm.exec) (hb : c.code = cc) (hown : s.vm.findClass own = some m.cls) (hclink : (Cond.classLink own index (FieldType.array ty).toString).before args s = true) (hover : va_AOA ty s) (hK : va_K D cl tys s) (ht : tys[t0]? = some (cA, .array ty)) (hP : va_P D cl ws H) (hD : va_D A ws) (hS : va_S A H0 H locs) (hA : ∀ q, H0.size ≤ q → A q)
    {n : Int32} {N' : Nat} (hn : ¬ n < 0) (hN : n.toNatClampNeg = N') (hbytes : N' * 4 ≤ 536870912) (hcells : cells + 1 ≤ R.cells) (hslots : slots + N' ≤ R.slots) (hdg : decode cc pc = .ok (.anewarray index, 3))
    (kk : ∀ (q : Nat) (H1 : Heap), va_P D cl (ws ++ [(q, .inl (cA, N', .inr (.inr (.inr (.inr (fun _ => none))))))]) H1 → va_D A (ws ++ [(q, .inl (cA, N', .inr (.inr (.inr (.inr (fun _ => none))))))]) → va_S A H0 H1 locs →
      W p l e R s m args below meth c H1 locs (cells + 1) (slots + N') Q (F0 m (pc + 3) ls (.ref q :: rest))) : W p l e R s m args below meth c H locs cells slots Q (F0 m pc ls (.int n :: rest)) := by
  subst hN
  refine W.anewA hexec hb hown hclink (va_AOA.use hover) rfl hdg rfl hn hbytes hcells hslots fun cB kA comp f1 f2 f3 f4 => ?_
  have hc : cB = cA := by
    have h2 : s.vm.findClass ("[" ++ (FieldType.array ty).toString) = some cA := (hK.2 t0 _ ht).2
    exact Option.some.inj (f1.symm.trans h2)
  subst hc
  generalize hH1 : H.push ({ cls := cB, slots := Array.replicate n.toNatClampNeg .null, vm := .none } : Cell) = H1
  have z1 : H1.size = H.size + 1 := by rw [← hH1, Array.size_push]
  have e1 : H1[H.size]? = some (arrV cB n.toNatClampNeg (fun _ => .null)) := by rw [← hH1, Array.getElem?_push_size, ← arrV_new]
  have o1 : ∀ q : Nat, q < H.size → H1[q]? = H[q]? := fun q hq => by rw [← hH1, Array.getElem?_push, if_neg (Nat.ne_of_lt hq)]
  have hk : ∀ (k : Nat) (x : Nat × va_E), ws[k]? = some x → H1[x.1]? = H[x.1]? := fun k x hx => o1 x.1 ((hP k x hx).lt)
  refine kk H.size H1 ((hP.kept hk).app (fun k x hx => ?_)) (hD.push hP rfl (hA _ hS.1)) ⟨Nat.le_trans hS.1 (by omega), fun x h1 h2 => (o1 x (Nat.lt_of_lt_of_le h1 hS.1)).trans (hS.2.1 x h1 h2), hS.2.2⟩
  have hz : k < 1 := (List.getElem?_eq_some_iff.mp hx).1
  obtain rfl : k = 0 := by omega
  cases hx
  exact e1
/-- an array of objects of C, its places null -/
theorem kn_newr {C : String} {own : String} {index : Nat} {cA : ClassId} (t0 : Nat) (hexec : p.tables.exec = Jvm.exec) (hb : c.code = cc) (hown : s.vm.findClass own = some m.cls) (hclink : (Cond.classLink own index C).before args s = true) (hover : va_AO C s) (hK : va_K D cl tys s) (ht : tys[t0]? = some (cA, .object C)) (hP : va_P D cl ws H) (hD : va_D A ws) (hS : va_S A H0 H locs) (hA : ∀ q, H0.size ≤ q → A q)
    {n : Int32} {N' : Nat} (hn : ¬ n < 0) (hN : n.toNatClampNeg = N') (hbytes : N' * 4 ≤ 536870912) (hcells : cells + 1 ≤ R.cells) (hslots : slots + N' ≤ R.slots) (hdg : decode cc pc = .ok (.anewarray index, 3))
    (kk : ∀ (q : Nat) (H1 : Heap), va_P D cl (ws ++ [(q, .inl (cA, N', .inr (.inr (.inr (.inr (fun _ => none))))))]) H1 → va_D A (ws ++ [(q, .inl (cA, N', .inr (.inr (.inr (.inr (fun _ => none))))))]) → va_S A H0 H1 locs →
      W p l e R s m args below meth c H1 locs (cells + 1) (slots + N') Q (F0 m (pc + 3) ls (.ref q :: rest))) : W p l e R s m args below meth c H locs cells slots Q (F0 m pc ls (.int n :: rest)) := by
  refine va_newq hexec hb hown hclink hover hK hP hD hS hA hn hN hbytes hcells hslots hdg (fun q cB H1 hK1 hP1 hD1 hS1 => ?_)
  obtain ⟨kA, comp, -, -, -, h1⟩ := (hK1.2 tys.length (cB, .object C) (by rw [List.getElem?_append_right (Nat.le_refl _), Nat.sub_self]; rfl)).2
  obtain ⟨kA2, comp2, -, -, -, h2⟩ := (hK.2 t0 _ ht).2
  have h3 : cB = cA := Option.some.inj (h1.symm.trans h2)
  subst h3
  exact kk q H1 hP1 hD1 hS1
/-- a row of numbers into a place of an array of such rows -/
theorem kn_asta {own : String} (hexec : p.tables.exec = Jvm.exec) (hb : c.code = cc) (hover : va_AOA .int s) (hK : va_K D cl tys s) (hP : va_P D cl ws H) (hD : va_D A ws) (hS : va_S A H0 H locs) (q0 t0 qk tk : Nat) {cA cB : ClassId} {n v : Nat} {y : vp_A} {f : Nat → Option Nat} (ha : ws[q0]? = some (a, .inl (cA, n, .inr (.inr (.inr (.inr f)))))) (ht : tys[t0]? = some (cA, .array .int)) (hv : ws[qk]? = some (v, .inl (cB, y))) (htk : tys[tk]? = some (cB, .int)) {i : Int32} (hin : vp_in i n) (hdg : decode cc pc = .ok (.aastore, 1))
    (kk : ∀ (H1 : Heap) (locs1 : List Loc), va_P D cl (ws.set q0 (a, .inl (cA, n, .inr (.inr (.inr (.inr (va_up f i.toNatClampNeg (some v)))))))) H1 → va_D A (ws.set q0 (a, .inl (cA, n, .inr (.inr (.inr (.inr (va_up f i.toNatClampNeg (some v)))))))) → va_S A H0 H1 locs1 → W p l e R s m args below meth c H1 locs1 cells slots Q (F0 m (pc + 1) ls rest)) : W p l e R s m args below meth c H locs cells slots Q (F0 m pc ls (.ref v :: .int i :: .ref a :: rest)) := by
  have hlt : i.toNatClampNeg < n := Nat.not_le.mp fun q => hin (Or.inr q)
  have h0 : ¬ i < 0 := fun q => hin (Or.inl q)
  obtain ⟨comp, cX, kA, f1, f2, f3, f4, f5⟩ := arrayOverA_spec (args := #[]) (va_AOA.use hover)
  have e1 : cX = cA := by
    have h2 : s.vm.findClass ("[" ++ (FieldType.array .int).toString) = some cA := (hK.2 t0 _ ht).2
    exact Option.some.inj (f5.symm.trans h2)
  have e2 : comp = cB := by
    have h2 : s.vm.findClass ("[" ++ FieldType.int.toString) = some cB := (hK.2 tk _ htk).2
    exact Option.some.inj (f1.symm.trans h2)
  subst e1 e2
  obtain ⟨kC, hkC, -⟩ := Vm.findClass_spec f1
  have hcv : H[v]? = some (vp_cell comp y) := hP qk _ hv
  have hcls : (vp_cell comp y).cls = comp := by obtain ⟨n, z | z | z | z | z⟩ := y <;> rfl
  have hvm : (vp_cell comp y).vm = .none := by obtain ⟨n, z | z | z | z | z⟩ := y <;> rfl
  refine W.aast hexec hb (hP q0 _ ha) (fun q h => by cases h) (fun h => by cases h) f3 f4 rfl hkC ⟨h0, by show _ < (arrV _ _ _).slots.size; rw [arrV_size]; exact hlt⟩ hcv (fun q h => by rw [hvm] at h; cases h) (by rw [hcls]; exact hkC) (by rw [hcls]; unfold Vm.assignable; rw [show (256 : Nat) = 255 + 1 from rfl, Vm.assignableAux, beq_self_eq_true, Bool.true_or]) rfl rfl hdg fun H1 e z oq => ?_
  refine kk H1 _ (hP.set hD ha ?_ oq) (hD.set ha) (hS.put z oq (hD.2 q0 _ ha))
  show H1[a]? = some (vp_cell _ _)
  rw [e]
  rw [vp_cell_q, vp_cell_q, arrV_store]
  congr 2
  funext q
  by_cases hq : q = i.toNatClampNeg
  · subst hq
    simp [updV, va_up, va_rf]
  · simp [updV, va_up, hq]
/-- new T[n][k]: the outer row and the inner ones -/
theorem kn_mn {ty : FieldType} {own : String} {index : Nat} {cA cB : ClassId} (t0 t1 : Nat) {z : vp_A} (hexec : p.tables.exec = Jvm.exec) (hb : c.code = cc) (hown : s.vm.findClass own = some m.cls) (hclink : (Cond.classLink own index ("[" ++ (FieldType.array ty).toString)).before args s = true) (hover : va_AOA ty s) (harr : (Cond.arrayClass ty).before args s = true) (hK : va_K D cl tys s) (ht : tys[t0]? = some (cA, .array ty)) (hcy : s.vm.findClass (FieldType.array ty).toString = some cB) (hP : va_P D cl ws H) (hD : va_D A ws) (hS : va_S A H0 H locs) (hA : ∀ q, H0.size ≤ q → A q)
    {N' K' : Nat} (hN : N' < 1000) (hM : K' < 1000) (hb2 : K' * componentBytes ty ≤ 536870912) (hdf : fits ty (defaultValue ty) = true) (hdd : (defaultValue ty).isDefault = true) (hcells : cells + (1 + N') ≤ R.cells) (hslots : slots + (N' + N' * K') ≤ R.slots) (hz : ∀ c : ClassId, Jvm.Free.Multi.innerC c K' (defaultValue ty) = vp_cell c z) (hdg : decode cc pc = .ok (.multianewarray index 2, 4))
    (kk : ∀ (q : Nat) (r : Nat → Nat) (H1 : Heap), va_P D cl ((ws ++ [(q, refsE cA N' r)]) ++ rl N' r (fun _ => .inl (cB, z))) H1 → va_D A ((ws ++ [(q, refsE cA N' r)]) ++ rl N' r (fun _ => .inl (cB, z))) → va_S A H0 H1 locs →
      W p l e R s m args below meth c H1 locs (cells + 1 + N') (slots + N' + N' * K') Q (F0 m (pc + 4) ls (.ref q :: rest))) : W p l e R s m args below meth c H locs cells slots Q (F0 m pc ls (.int (nI K') :: .int (nI N') :: rest)) := by
  have e0 : ∀ f : Nat → va_E, ws ++ va_pl [] f = ws := fun f => List.append_nil ws
  refine va_mna (X := ws) (L := []) (f := fun _ => .inr (0, [])) (ty := ty) (cy := cB) (N' := N') (K' := K') (z := z) hexec hb hown hclink hover harr hcy hK (by rw [e0]; exact hP) (by rw [e0]; exact hD) hS hA (nI_pos (by omega)) (nI_pos (by omega)) (nI_clamp (by omega)) (nI_clamp (by omega)) (by omega) hb2 (by omega) hdf hdd hcells hslots hz hdg (fun q r cX H1 _ _ hK1 hP1 hD1 hS1 => ?_)
  have h1 : s.vm.findClass ("[" ++ (FieldType.array ty).toString) = some cX := (hK1.2 tys.length (cX, .array ty) (by rw [List.getElem?_append_right (Nat.le_refl _), Nat.sub_self]; rfl)).2
  have h2 : s.vm.findClass ("[" ++ (FieldType.array ty).toString) = some cA := (hK.2 t0 _ ht).2
  have h3 : cX = cA := Option.some.inj (h1.symm.trans h2)
  subst h3
  have e1 : va_pl ([] ++ (List.range N').map r) (vr_up (fun _ => .inr (0, [])) ((List.range N').map r) (.inl (cB, z))) = rl N' r (fun _ => .inl (cB, z)) := by
    rw [← vr_rows (fun a _ => List.not_mem_nil), rl]
    simp [va_pl]
  rw [e1] at hP1 hD1
  have hk : ((ws ++ [(q, .inl (cX, N', .inr (.inr (.inr (.inr (fun i => if i < N' then some (r i) else none))))))]) ++ rl N' r (fun _ => .inl (cB, z)))[ws.length]? = some (q, .inl (cX, N', .inr (.inr (.inr (.inr (fun i => if i < N' then some (r i) else none)))))) := by
    rw [List.getElem?_append_left (by simp), List.getElem?_append_right (Nat.le_refl _), Nat.sub_self]; rfl
  obtain ⟨hP2, hD2⟩ := refs_refit (g := fun i => some (r i)) hP1 hD1 hk (fun i hi => if_pos hi)
  have e2 : (((ws ++ [(q, .inl (cX, N', .inr (.inr (.inr (.inr (fun i => if i < N' then some (r i) else none))))))]) ++ rl N' r (fun _ => .inl (cB, z))) : va_W).set ws.length (q, .inl (cX, N', .inr (.inr (.inr (.inr (fun i => some (r i))))))) = (ws ++ [(q, refsE cX N' r)]) ++ rl N' r (fun _ => .inl (cB, z)) := by
    rw [List.set_append_left _ _ (by simp), List.set_append_right _ _ (Nat.le_refl _), Nat.sub_self]; rfl
  rw [e2] at hP2 hD2
  exact kk q r H1 hP2 hD2 hS1
end KW
