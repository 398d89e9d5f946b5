/-! calls whose callee gets a middle of the world -/
theorem va_D.perm {A : Nat → Prop} {ws ws2 : va_W} (h : va_D A ws) (hp : ws.Perm ws2) : va_D A ws2 := by
  have nd : ∀ {l : va_W}, (∀ (i j : Nat) (p q : Nat × va_E), l[i]? = some p → l[j]? = some q → p.1 = q.1 → i = j) ↔ (l.map Prod.fst).Nodup := by
    intro l
    rw [List.Nodup, List.pairwise_iff_getElem]
    constructor
    · intro h i j hi hj hij e
      rw [List.getElem_map, List.getElem_map] at e
      rw [List.length_map] at hi hj
      have := h i j _ _ (List.getElem?_eq_getElem hi) (List.getElem?_eq_getElem hj) e
      omega
    · intro h i j p q hi hj e
      obtain ⟨hi1, hi2⟩ := List.getElem?_eq_some_iff.mp hi
      obtain ⟨hj1, hj2⟩ := List.getElem?_eq_some_iff.mp hj
      rcases Nat.lt_trichotomy i j with c | c | c
      · exact absurd (by rw [List.getElem_map, List.getElem_map, hi2, hj2]; exact e) (h i j (by rw [List.length_map]; exact hi1) (by rw [List.length_map]; exact hj1) c)
      · exact c
      · exact absurd (by rw [List.getElem_map, List.getElem_map, hi2, hj2]; exact e.symm) (h j i (by rw [List.length_map]; exact hj1) (by rw [List.length_map]; exact hi1) c)
  refine ⟨nd.mpr ((hp.map Prod.fst).nodup_iff.mp (nd.mp h.1)), fun k q hk => ?_⟩
  obtain ⟨j, hj⟩ := List.getElem?_of_mem (hp.mem_iff.mpr (List.mem_of_getElem? hk))
  exact h.2 j q hj
theorem va_P.perm {D : va_G} {cl : List vw_C} {ws ws2 : va_W} {H : Heap} (h : va_P D cl ws H) (hp : ws.Perm ws2) : va_P D cl ws2 H := h.of (fun _ hx => hp.mem_iff.mpr hx)
theorem pm_rot {P X Z : va_W} : (P ++ (X ++ Z)).Perm (X ++ (P ++ Z)) := by
  rw [← List.append_assoc, ← List.append_assoc]
  exact List.Perm.append_right Z List.perm_append_comm
/-- a cell behind Z1 comes behind B -/
theorem pm_mid {P B Z1 Q Z2 : va_W} : (P ++ (B ++ (Z1 ++ (Q ++ Z2)))).Perm (P ++ ((B ++ Q) ++ (Z1 ++ Z2))) := by
  refine List.Perm.append_left P ?_
  rw [List.append_assoc]
  refine List.Perm.append_left B ?_
  rw [← List.append_assoc, ← List.append_assoc]
  exact List.Perm.append_right Z2 List.perm_append_comm
/-- the last cell before B comes behind B -/
theorem pm_last {P B Q Z : va_W} : ((P ++ Q) ++ (B ++ Z)).Perm (P ++ ((B ++ Q) ++ Z)) := by
  rw [List.append_assoc]
  refine List.Perm.append_left P ?_
  rw [← List.append_assoc]
  exact List.Perm.append_right Z List.perm_append_comm
/-- the last cells before B go to the end -/
theorem pm_end {P Q B Z : va_W} : ((P ++ Q) ++ (B ++ Z)).Perm (P ++ (B ++ (Z ++ Q))) := by
  rw [List.append_assoc]
  refine List.Perm.append_left P ?_
  have h : (Q ++ (B ++ Z)).Perm ((B ++ Z) ++ Q) := List.perm_append_comm
  rw [List.append_assoc] at h
  exact h
section KQ
variable {p : Program} {l : Launch} {e : Env} {R : Room} {s : State} {m : MethodId} {args : Array Value} {below : List Frame} {meth : Method} {c : Code} {H : Heap} {locs : List Loc} {cells slots : Nat} {Q : State → Prop}
variable {cc : ByteArray} {pc mc ms : Nat} {ls : Array Slot} {rest st0 : List Value} {D : va_G} {A : Nat → Prop} {a : Array Value} {P X Z w1 : va_W} {S : Type}
theorem kqStart {E : (Nat → Prop) → State → Heap → Prop} (hE : EOK E) (h0 : E A s s.heap) (hP : va_P D vwCl (P ++ (X ++ Z)) H) (hD : va_D A (P ++ (X ++ Z))) (hS : va_S A s.heap H locs) (hA : ∀ q, s.heap.size ≤ q → A q) (av : List Value) : ∀ U : State, U.heap = H → s.WarmedH U.vm → kP E D av X H.size av.toArray U :=
  kpStart hE h0 (hP.perm pm_rot) (hD.perm pm_rot) hS hA av
theorem kq_i {v : Int32} (hr : va_Run p l e R s m args below meth c H locs cells slots mc ms (F0 m pc ls st0) rest (kQi D v w1 (va_A X H.size) a) (va_A X H.size)) (hP : va_P D vwCl (P ++ (X ++ Z)) H) (hD : va_D A (P ++ (X ++ Z))) (hS : va_S A s.heap H locs) (hA : ∀ q, s.heap.size ≤ q → A q)
    (kk : ∀ (H1 : Heap) (locs1 : List Loc), va_P D vwCl (P ++ (w1 ++ Z)) H1 → va_D A (P ++ (w1 ++ Z)) → va_S A s.heap H1 locs1 → W p l e R s m args below meth c H1 locs1 (cells + mc) (slots + ms) Q (F0 m (pc + 3) ls (.int v :: rest))) : W p l e R s m args below meth c H locs cells slots Q (F0 m pc ls st0) :=
  kp_i hr (hP.perm pm_rot) (hD.perm pm_rot) hS hA (fun H1 l1 h1 h2 h3 => kk H1 l1 (h1.perm pm_rot) (h2.perm pm_rot) h3)
theorem kq_v (hr : va_Run p l e R s m args below meth c H locs cells slots mc ms (F0 m pc ls st0) rest (kQv D w1 (va_A X H.size) a) (va_A X H.size)) (hP : va_P D vwCl (P ++ (X ++ Z)) H) (hD : va_D A (P ++ (X ++ Z))) (hS : va_S A s.heap H locs) (hA : ∀ q, s.heap.size ≤ q → A q)
    (kk : ∀ (H1 : Heap) (locs1 : List Loc), va_P D vwCl (P ++ (w1 ++ Z)) H1 → va_D A (P ++ (w1 ++ Z)) → va_S A s.heap H1 locs1 → W p l e R s m args below meth c H1 locs1 (cells + mc) (slots + ms) Q (F0 m (pc + 3) ls rest)) : W p l e R s m args below meth c H locs cells slots Q (F0 m pc ls st0) :=
  kp_v hr (hP.perm pm_rot) (hD.perm pm_rot) hS hA (fun H1 l1 h1 h2 h3 => kk H1 l1 (h1.perm pm_rot) (h2.perm pm_rot) h3)
/-- a text beside the callee's cells X -/
theorem kT_pre {Ts : List Cond} {args : Array Value} {A : Nat → Prop} {D : va_G} {cy : Nat → ClassId} {s : State} {H : Heap} {X Y : va_W} {tx : List Int32} {r : Nat} (hts : ∀ w ∈ Ts, w.before args s = true) (hin : ∀ w ∈ u_ws RJ0 TJ0 4, w ∈ Ts) (hK : va_K D vwCl (kTys cy) s) (hm : strM cy tx r Y) (hP : va_P D vwCl (X ++ Y) H) (hD : va_D A (X ++ Y)) : kStrAt tx r (va_A X H.size) s H := by
  obtain ⟨v, f, h1, h2, hf⟩ := hm
  obtain ⟨k1, hk1⟩ := List.getElem?_of_mem h1
  obtain ⟨k2, hk2⟩ := List.getElem?_of_mem h2
  have g : ∀ (k : Nat) (x : Nat × va_E), Y[k]? = some x → (X ++ Y)[X.length + k]? = some x := fun k x h => by rw [List.getElem?_append_right (by omega), show X.length + k - X.length = k by omega, h]
  have n : ∀ (k : Nat) (x : Nat × va_E), Y[k]? = some x → ¬ va_A X H.size x.1 := by
    intro k x hx q
    rcases q with ⟨j, e, hj⟩ | q
    · have h3 := hD.1 j (X.length + k) (x.1, e) x (by rw [List.getElem?_append_left (List.getElem?_eq_some_iff.mp hj).1]; exact hj) (g k x hx) rfl
      have := (List.getElem?_eq_some_iff.mp hj).1
      omega
    · exact absurd (hP _ x (g k x hx)).lt (Nat.not_lt.mpr q)
  exact kStr_of hts hin hK ⟨hP _ _ (g _ _ hk1), n _ _ hk1⟩ ⟨hP _ _ (g _ _ hk2), n _ _ hk2⟩ hf
theorem kT_q {Ts : List Cond} {cy : Nat → ClassId} {tx : List Int32} {r : Nat} (hts : ∀ w ∈ Ts, w.before args s = true) (hin : ∀ w ∈ u_ws RJ0 TJ0 4, w ∈ Ts) (hK : va_K D vwCl (kTys cy) s) (hm : strM cy tx r (P ++ Z)) (hP : va_P D vwCl (P ++ (X ++ Z)) H) (hD : va_D A (P ++ (X ++ Z))) : kStrAt tx r (va_A X H.size) s H :=
  kT_pre hts hin hK hm (hP.perm pm_rot) (hD.perm pm_rot)
theorem kT_qo {tx : List Int32} {r : Nat} (h : kStrAt tx r A s s.heap) (hD : va_D A (P ++ (X ++ Z))) (hS : va_S A s.heap H locs) (hA : ∀ q, s.heap.size ≤ q → A q) : kStrAt tx r (va_A X H.size) s H :=
  h.go (fun a h1 h2 => hS.2.1 a h1 h2) (kp_free (hD.perm pm_rot) hS hA) (State.WarmedH.refl s).alike
theorem kqStartS {cy : Nat → ClassId} {tx : List Int32} {r : Nat} (h0 : EN D cy A s s.heap) (hP : va_P D vwCl (P ++ (X ++ Z)) H) (hD : va_D A (P ++ (X ++ Z))) (hS : va_S A s.heap H locs) (hA : ∀ q, s.heap.size ≤ q → A q) (hT : kStrAt tx r (va_A X H.size) s H) (av : List Value) :
    ∀ U : State, U.heap = H → s.WarmedH U.vm → kP (ES D cy tx r) D av X H.size av.toArray U := by
  intro U hU hW
  obtain ⟨q1, q2, q3, q4, q5⟩ := kqStart (EN_ok D cy) h0 hP hD hS hA av U hU hW
  exact ⟨q1, q2, q3, q4, q5, by rw [hU]; exact hT.go (fun _ _ _ => rfl) (fun _ h => h) hW.alike⟩
theorem kqStartL {cy : Nat → ClassId} {tx : List Int32} {r : Nat} (h0 : EL D cy A s s.heap) (hP : va_P D vwCl (P ++ (X ++ Z)) H) (hD : va_D A (P ++ (X ++ Z))) (hS : va_S A s.heap H locs) (hA : ∀ q, s.heap.size ≤ q → A q) (hT : kStrAt tx r (va_A X H.size) s H) (av : List Value) :
    ∀ U : State, U.heap = H → s.WarmedH U.vm → kP (ESL D cy tx r) D av X H.size av.toArray U := by
  intro U hU hW
  obtain ⟨q1, q2, q3, q4, q5⟩ := kqStart (EL_ok D cy) h0 hP hD hS hA av U hU hW
  exact ⟨q1, q2, q3, q4, q5, by rw [hU]; exact hT.go (fun _ _ _ => rfl) (fun _ h => h) hW.alike⟩
end KQ
theorem CWN_eq {cy : Nat → ClassId} {u : Nat → Nat} {qo qb q3 n3 : Nat} {st : St} {B p3 : Nat → Int32} : CWB cy u qo st qb B ++ [(q3, .inl (cy 0, n3, .inl p3))] = CWN cy u qo st qb B q3 n3 p3 := by
  unfold CWB CWN
  rw [List.append_assoc]; rfl
/-- a pool, cut at its place k -/
theorem rl_cut {n k : Nat} {r : Nat → Nat} {e : Nat → va_E} (h : k < n) : rl n r e = rl k r e ++ ([(r k, e k)] ++ rl (n - k - 1) (fun i => r (k + 1 + i)) (fun i => e (k + 1 + i))) := by
  apply List.ext_getElem?
  intro j
  by_cases c1 : j < k
  · rw [List.getElem?_append_left (by rw [rl_len]; exact c1), rl_at c1, rl_at (by omega)]
  · rw [List.getElem?_append_right (by rw [rl_len]; omega), rl_len]
    by_cases c2 : j = k
    · subst c2
      rw [Nat.sub_self, rl_at h]; rfl
    · rw [List.getElem?_append_right (by show 1 ≤ j - k; omega)]
      show (rl n r e)[j]? = (rl (n - k - 1) _ _)[j - k - 1]?
      by_cases c3 : j < n
      · rw [rl_at c3, rl_at (by omega), show k + 1 + (j - k - 1) = j by omega]
      · rw [List.getElem?_eq_none (by rw [rl_len]; omega), List.getElem?_eq_none (by rw [rl_len]; omega)]
