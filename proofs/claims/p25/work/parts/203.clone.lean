/-! a copy of a row that is only read; the graph with its addresses in the hand -/
theorem va_S.wide {A B : Nat → Prop} {H0 H : Heap} {locs : List Loc} (h : va_S A H0 H locs) (hAB : ∀ q, A q → B q) : va_S B H0 H locs := ⟨h.1, fun q h1 h2 => h.2.1 q h1 (fun z => h2 (hAB q z)), fun l hl => hAB _ (h.2.2 l hl)⟩
def EX (D : va_G) (cy : Nat → ClassId) (G : LG) (a qV qP qU qH qG : Nat) (vT : Value) (rP rH rG : Nat → Nat) (rL : Nat → Nat → Nat) (rN : Nat → Nat) (A : Nat → Prop) (U : State) (H : Heap) : Prop := EW D cy A U H ∧ GF D cy G a qV qP qU qH qG vT rP rH rG rL rN A U H
theorem EX_ok (D : va_G) (cy : Nat → ClassId) (G : LG) (a qV qP qU qH qG : Nat) (vT : Value) (rP rH rG : Nat → Nat) (rL : Nat → Nat → Nat) (rN : Nat → Nat) : EOK (EX D cy G a qV qP qU qH qG vT rP rH rG rL rN) := fun A B s U H0 H h hq hAB hW => ⟨EW_ok D cy A B s U H0 H h.1 hq hAB hW, h.2.go hq hAB hW.alike⟩
section KCL
variable {p : Program} {l : Launch} {e : Env} {R : Room} {s : State} {m : MethodId} {args : Array Value} {below : List Frame} {meth : Method} {c : Code} {H : Heap} {locs : List Loc} {cells slots : Nat} {Q : State → Prop}
variable {cc : ByteArray} {pc : Nat} {ls : Array Slot} {rest : List Value} {D : va_G} {A : Nat → Prop} {a : Nat} {tys : List (ClassId × FieldType)} {ws : va_W}
theorem kg_clone (hexec : p.tables.exec = Jvm.exec) (hb : c.code = cc) (hml : c.maxLocals = ls.size) {own ad : String} {index : Nat} (hown : s.vm.findClass own = some m.cls)
    (hlink : (Cond.methodLink own index ⟨ad, "clone", "()Ljava/lang/Object;"⟩).before args s = true) (hsame : (Cond.sameMethod ad "java/lang/Object" "clone" "()Ljava/lang/Object;").before args s = true) (hnat : (Cond.native ⟨"java/lang/Object", "clone", "()Ljava/lang/Object;"⟩).before args s = true) (hinst : (Cond.instanceMethod ⟨"java/lang/Object", "clone", "()Ljava/lang/Object;"⟩).before args s = true)
    (hsel : (Cond.selects ad ⟨ad, "clone", "()Ljava/lang/Object;"⟩ ⟨"java/lang/Object", "clone", "()Ljava/lang/Object;"⟩).before args s = true) (hcl : va_Nw (.castable ad "java/lang/Cloneable") s) (hK : va_K D vwCl tys s) (hP : va_P D vwCl ws H) (hD : va_D A ws) (hS : va_S A s.heap H locs) (hA : ∀ q, s.heap.size ≤ q → A q) (t0 : Nat) {cA : ClassId} {x : vp_A} {ty : FieldType} (ho : ro D a (.inl (cA, x)) A s.heap) (ht : tys[t0]? = some (cA, ty))
    (hnm : s.vm.findClass ad = some cA) (hfit : ∀ (i : Nat) (v : Value), (vp_cell cA x).slots[i]? = some v → fits ty v = true) (hframes : 1 ≤ R.frames) (hlocals : (rest.map fun v => v.category).sum + 14 ≤ R.locals) (hcells : cells + 1 ≤ R.cells) (hslots : slots + x.1 ≤ R.slots) (hdg : decode cc pc = .ok (.invokevirtual index, 3))
    (kk : ∀ (q : Nat) (H1 : Heap), va_P D vwCl (ws ++ [(q, .inl (cA, x))]) H1 → va_D A (ws ++ [(q, .inl (cA, x))]) → va_S A s.heap H1 locs → W p l e R s m args below meth c H1 locs (cells + 1) (slots + x.1) Q (F0 m (pc + 3) ls (.ref q :: rest))) : W p l e R s m args below meth c H locs cells slots Q (F0 m pc ls (.ref a :: rest)) := by
  have hPa : va_P D vwCl [(a, .inl (cA, x))] H := ho.P hS
  have hne : ∀ (k : Nat) (z : Nat × va_E), ws[k]? = some z → z.1 ≠ a := fun k z hz h => ho.2 (by rw [← h]; exact hD.2 k z hz)
  have hP2 : va_P D vwCl (ws ++ [(a, .inl (cA, x))]) H := hP.app hPa
  have hone : ∀ (k : Nat) (z : Nat × va_E), (ws ++ [(a, .inl (cA, x))])[k]? = some z → (k < ws.length ∧ ws[k]? = some z) ∨ (k = ws.length ∧ z = (a, .inl (cA, x))) := by
    intro k z hz
    by_cases h : k < ws.length
    · rw [List.getElem?_append_left h] at hz; exact Or.inl ⟨h, hz⟩
    · rw [List.getElem?_append_right (by omega)] at hz
      have h1 : k - ws.length < 1 := (List.getElem?_eq_some_iff.mp hz).1
      rw [show k - ws.length = 0 by omega] at hz
      exact Or.inr ⟨by omega, (Option.some.inj hz).symm⟩
  have hD2 : va_D (fun q => A q ∨ q = a) (ws ++ [(a, .inl (cA, x))]) := by
    refine ⟨fun i j z y hi hj hzy => ?_, fun k z hz => ?_⟩
    · rcases hone i z hi with ⟨_, h1⟩ | ⟨h0, h1⟩ <;> rcases hone j y hj with ⟨_, h2⟩ | ⟨h3, h2⟩
      · exact hD.1 i j z y h1 h2 hzy
      · rw [h2] at hzy; exact absurd hzy (hne i z h1)
      · rw [h1] at hzy; exact absurd hzy.symm (hne j y h2)
      · omega
    · rcases hone k z hz with ⟨_, h1⟩ | ⟨_, h1⟩
      · exact Or.inl (hD.2 k z h1)
      · exact Or.inr (by rw [h1])
  refine va_clone hexec hb hml hown hlink hsame hnat hinst hsel hcl hK hP2 hD2 (hS.wide (fun q h => Or.inl h)) (fun q h => Or.inl (hA q h)) ws.length t0 (by rw [List.getElem?_append_right (Nat.le_refl _), Nat.sub_self]; rfl) ht hnm hfit hframes hlocals hcells hslots hdg (fun q H1 _ hP3 hD3 hS3 => ?_)
  have hl2 : (ws ++ [(a, Sum.inl (cA, x))] : va_W).length = ws.length + 1 := by simp
  have g : ∀ (k : Nat) (z : Nat × va_E), (ws ++ [(q, .inl (cA, x))])[k]? = some z → ((ws ++ [(a, .inl (cA, x))]) ++ [(q, .inl (cA, x))])[if k < ws.length then k else k + 1]? = some z := by
    intro k z hz
    by_cases h : k < ws.length
    · rw [if_pos h, List.getElem?_append_left (by omega), List.getElem?_append_left h]
      rw [List.getElem?_append_left h] at hz; exact hz
    · rw [if_neg h, List.getElem?_append_right (by omega), hl2, show k + 1 - (ws.length + 1) = k - ws.length by omega]
      rw [List.getElem?_append_right (by omega)] at hz; exact hz
  have ha3 : va_at D vwCl (a, .inl (cA, x)) H1 := hP3 ws.length _ (by rw [List.getElem?_append_left (by omega), List.getElem?_append_right (Nat.le_refl _), Nat.sub_self]; rfl)
  refine kk q H1 (fun k z hz => hP3 _ z (g k z hz)) ⟨fun i j z y hi hj hzy => ?_, fun k z hz => ?_⟩ ⟨hS3.1, fun y h1 h2 => ?_, hS.2.2⟩
  · have := hD3.1 _ _ z y (g i z hi) (g j y hj) hzy
    split at this <;> split at this <;> omega
  · rcases hD3.2 _ z (g k z hz) with h | h
    · exact h
    · by_cases hk : k < ws.length
      · rw [List.getElem?_append_left hk] at hz; exact hD.2 k z hz
      · have h4 := hD3.1 _ ws.length z (a, .inl (cA, x)) (g k z hz) (by rw [List.getElem?_append_left (by omega), List.getElem?_append_right (Nat.le_refl _), Nat.sub_self]; rfl) h
        rw [if_neg hk] at h4; omega
  · by_cases hy : y = a
    · subst hy
      have e1 : H1[y]? = some (vp_cell cA x) := ha3
      have e2 : s.heap[y]? = some (vp_cell cA x) := ho.1
      rw [e1, e2]
    · exact hS3.2.1 y h1 (fun z => z.elim h2 hy)
end KCL
theorem rl_more {X : va_W} {n x : Nat} {r : Nat → Nat} {e : Nat → va_E} {y : va_E} (hy : y = e n) : (X ++ rl n r e) ++ [(x, y)] = X ++ rl (n + 1) (fun k => if k = n then x else r k) e := by
  rw [rl_push, List.append_assoc, if_pos rfl, hy]
  congr 2
  exact rl_congr (fun i hi => ⟨(if_neg (by omega)).symm, rfl⟩)
