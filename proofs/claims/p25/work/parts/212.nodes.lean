/-! Node.random (nd.py) -/
/-- Node.random: the kind, the number and the seed behind it, the tree by its places -/
def tK (d : Nat) (s : Int32) : Nat := rnV s % (if d = 0 then 2 else 6)
def tN (k : Nat) (s : Int32) : Nat × Int32 := if k = 0 then (rnV (rnS s) % (if rnV s % 8 = 0 then 10000 else 12), rnS (rnS s)) else (rnV s % 4, rnS s)
def tMix {α : Type} (a : α) (l r : Nat → α) : Nat → α := fun i => match i with
  | 1 => a
  | 2 => l 1
  | 3 => r 1
  | 4 => l 2
  | 5 => l 3
  | 6 => r 2
  | _ => r 3
def tGen : Nat → Int32 → (Nat → Nat) × (Nat → Int32) × Int32
  | 0, s => (fun _ => tK 0 s, fun _ => nI (tN (tK 0 s) (rnS s)).1, (tN (tK 0 s) (rnS s)).2)
  | d + 1, s => if 1 < tK (d + 1) s then (tMix (tK (d + 1) s) (tGen d (tN (tK (d + 1) s) (rnS s)).2).1 (tGen d (tGen d (tN (tK (d + 1) s) (rnS s)).2).2.2).1, tMix (nI (tN (tK (d + 1) s) (rnS s)).1) (tGen d (tN (tK (d + 1) s) (rnS s)).2).2.1 (tGen d (tGen d (tN (tK (d + 1) s) (rnS s)).2).2.2).2.1, (tGen d (tGen d (tN (tK (d + 1) s) (rnS s)).2).2.2).2.2)
    else (fun _ => tK (d + 1) s, fun _ => nI (tN (tK (d + 1) s) (rnS s)).1, (tN (tK (d + 1) s) (rnS s)).2)
theorem tK_lt (d : Nat) (s : Int32) : tK d s < 6 := by
  unfold tK
  split
  · exact Nat.lt_of_lt_of_le (Nat.mod_lt _ (by decide)) (by decide)
  · exact Nat.mod_lt _ (by decide)
theorem tK_0 (s : Int32) : tK 0 s < 2 := Nat.mod_lt _ (by decide)
theorem tN_lt (k : Nat) (s : Int32) : (tN k s).1 < 10000 := by
  unfold tN
  split
  · split
    · exact Nat.mod_lt _ (by decide)
    · exact Nat.lt_of_lt_of_le (Nat.mod_lt _ (by decide)) (by decide)
  · exact Nat.lt_of_lt_of_le (Nat.mod_lt _ (by decide)) (by decide)
def ndQ (K : Nat → Nat) (i : Nat) : Bool := match i with
  | 1 => true
  | 2 => decide (1 < K 1)
  | 3 => decide (1 < K 1)
  | 4 => decide (1 < K 1) && decide (1 < K 2)
  | 5 => decide (1 < K 1) && decide (1 < K 2)
  | 6 => decide (1 < K 1) && decide (1 < K 3)
  | 7 => decide (1 < K 1) && decide (1 < K 3)
  | _ => false
abbrev ndE (K : Nat → Nat) (N : Nat → Int32) (rN : Nat → Nat) (i : Nat) : va_E := .inr (8, [.int (nI (K i)), .int (N i), if 1 < K i then .ref (rN (2 * i)) else .null, if 1 < K i then .ref (rN (2 * i + 1)) else .null])
def ndOK (K : Nat → Nat) (N : Nat → Int32) (rN : Nat → Nat) (L : va_W) : Prop := ∀ i, ndQ K i = true → (rN i, ndE K N rN i) ∈ L
def ndLow (d : Nat) (K : Nat → Nat) : Prop := (d = 0 → K 1 < 2) ∧ (1 < K 1 → K 2 < 2 ∧ K 3 < 2)
theorem tGen_low : ∀ d, d ≤ 1 → ∀ s, ndLow d (tGen d s).1
  | 0, _, s => ⟨fun _ => tK_0 s, fun h => absurd h (Nat.not_lt.mpr (Nat.le_of_lt_succ (tK_0 s)))⟩
  | 1, _, s => by
    refine ⟨fun h => absurd h (by decide), fun h => ?_⟩
    unfold tGen at h ⊢
    by_cases c : 1 < tK (0 + 1) s
    · rw [if_pos c] at h ⊢
      exact ⟨tK_0 _, tK_0 _⟩
    · rw [if_neg c] at h
      exact absurd h c
  | d + 2, h, _ => absurd h (by omega)
theorem nd_leaf {k x : Nat} {n : Int32} (hk : ¬ 1 < k) : ndOK (fun _ => k) (fun _ => n) (fun _ => x) [(x, .inr (8, [.int (nI k), .int n, .null, .null]))] := by
  intro i hi
  have e : ndE (fun _ => k) (fun _ => n) (fun _ => x) i = .inr (8, [.int (nI k), .int n, .null, .null]) := by
    show (.inr (8, [.int (nI k), .int n, if 1 < k then .ref x else .null, if 1 < k then .ref x else .null]) : va_E) = _
    rw [if_neg hk]
  rw [e]; exact List.mem_singleton.mpr rfl
theorem nd_merge {d k x : Nat} {n : Int32} {KA KB : Nat → Nat} {NA NB : Nat → Int32} {rA rB : Nat → Nat} {LA LB : va_W} (hk : 1 < k) (okA : ndOK KA NA rA LA) (okB : ndOK KB NB rB LB) (lA : ndLow d KA) (lB : ndLow d KB) :
    ndOK (tMix k KA KB) (tMix n NA NB) (tMix x rA rB) (([(x, .inr (8, [.int (nI k), .int n, .ref (rA 1), .ref (rB 1)]))] ++ LA) ++ LB) := by
  have inA : ∀ z ∈ LA, z ∈ (([(x, .inr (8, [.int (nI k), .int n, .ref (rA 1), .ref (rB 1)]))] ++ LA) ++ LB : va_W) := fun z hz => List.mem_append_left _ (List.mem_append_right _ hz)
  have inB : ∀ z ∈ LB, z ∈ (([(x, .inr (8, [.int (nI k), .int n, .ref (rA 1), .ref (rB 1)]))] ++ LA) ++ LB : va_W) := fun z hz => List.mem_append_right _ hz
  have low : ∀ (K : Nat → Nat) (N : Nat → Int32) (r r2 : Nat → Nat) (j a b : Nat), ¬ 1 < K j → (.inr (8, [.int (nI (K j)), .int (N j), if 1 < K j then .ref a else .null, if 1 < K j then .ref b else .null]) : va_E) = ndE K N r j := fun K N r r2 j a b h => by unfold ndE; rw [if_neg h, if_neg h, if_neg h, if_neg h]
  intro i hi
  match i, hi with
  | 1, _ =>
    have e : ndE (tMix k KA KB) (tMix n NA NB) (tMix x rA rB) 1 = .inr (8, [.int (nI k), .int n, .ref (rA 1), .ref (rB 1)]) := by
      show (.inr (8, [.int (nI k), .int n, if 1 < k then .ref (rA 1) else .null, if 1 < k then .ref (rB 1) else .null]) : va_E) = _
      rw [if_pos hk, if_pos hk]
    rw [e]; exact List.mem_append_left _ (List.mem_append_left _ (List.mem_singleton.mpr rfl))
  | 2, _ => exact inA _ (okA 1 rfl)
  | 3, _ => exact inB _ (okB 1 rfl)
  | 4, hi =>
    have h1 : 1 < KA 1 := by have := (Bool.and_eq_true _ _ ▸ hi : _ ∧ _).2; exact of_decide_eq_true this
    have h2 := (lA.2 h1).1
    have h3 := okA 2 (decide_eq_true h1)
    have e : ndE (tMix k KA KB) (tMix n NA NB) (tMix x rA rB) 4 = ndE KA NA rA 2 := low KA NA rA rA 2 _ _ (by omega)
    rw [e]; exact inA _ h3
  | 5, hi =>
    have h1 : 1 < KA 1 := by have := (Bool.and_eq_true _ _ ▸ hi : _ ∧ _).2; exact of_decide_eq_true this
    have h2 := (lA.2 h1).2
    have h3 := okA 3 (decide_eq_true h1)
    have e : ndE (tMix k KA KB) (tMix n NA NB) (tMix x rA rB) 5 = ndE KA NA rA 3 := low KA NA rA rA 3 _ _ (by omega)
    rw [e]; exact inA _ h3
  | 6, hi =>
    have h1 : 1 < KB 1 := by have := (Bool.and_eq_true _ _ ▸ hi : _ ∧ _).2; exact of_decide_eq_true this
    have h2 := (lB.2 h1).1
    have h3 := okB 2 (decide_eq_true h1)
    have e : ndE (tMix k KA KB) (tMix n NA NB) (tMix x rA rB) 6 = ndE KB NB rB 2 := low KB NB rB rB 2 _ _ (by omega)
    rw [e]; exact inB _ h3
  | 7, hi =>
    have h1 : 1 < KB 1 := by have := (Bool.and_eq_true _ _ ▸ hi : _ ∧ _).2; exact of_decide_eq_true this
    have h2 := (lB.2 h1).2
    have h3 := okB 3 (decide_eq_true h1)
    have e : ndE (tMix k KA KB) (tMix n NA NB) (tMix x rA rB) 7 = ndE KB NB rB 3 := low KB NB rB rB 3 _ _ (by omega)
    rw [e]; exact inB _ h3
def nb : Nat → Nat
  | 0 => 1
  | d + 1 => 1 + nb d + nb d
theorem nb_s (d : Nat) : nb (d + 1) = 1 + nb d + nb d := rfl
theorem wjn_set0 {ws L : va_W} {b : Nat × va_E} : wjn ws [0] ([b] ++ L) = ws.set 0 b ++ L := by
  cases L <;> rfl
theorem kd_X8_init : yX8_init.cls ≠ "java/lang/invoke/MethodHandle" ∧ yX8_init.cls ≠ "java/lang/invoke/VarHandle" ∧ (parseMethodDescriptor yX8_init.desc).map (fun d => d.parameters.length) = some 0 := by decide +kernel
set_option maxHeartbeats 4000000 in
set_option maxRecDepth 100000 in
theorem c_X8_init {l : Launch} {D : va_G} {cy : Nat → ClassId} (x sz : Nat) : Met l yX8_init wsX8_init ({ frames := 1, cells := 0, slots := 0, locals := 20 } : Room) (kP (EN D cy) D [.ref x] ([(x, .inr (8, [.int (0 : Int32), .int (0 : Int32), .null, .null]))]) sz) (kQv D [(x, .inr (8, [.int (0 : Int32), .int (0 : Int32), .null, .null]))] (va_A ([(x, .inr (8, [.int (0 : Int32), .int (0 : Int32), .null, .null]))]) sz)) 0 0 (va_A ([(x, .inr (8, [.int (0 : Int32), .int (0 : Int32), .null, .null]))]) sz) := by
  refine kMet (y := yX8_init) (av := [.ref x]) (cc := cX8_init) (maxL := 1) (ret := none) (own := RX8) (Qc := fun A9 => (kQv D [(x, .inr (8, [.int (0 : Int32), .int (0 : Int32), .null, .null]))] A9)) (by decide) rfl rfl (Nat.le_of_ble_eq_true rfl) ?_
  intro p e s m args below meth c A hx hb hr hts hown hml hlocks hname hE hP hD hA hsz ls hl
  have hK := hE.1
  have hl : lv_has ls 1 [(0, .ref x)] := hl
  have hS : va_S A s.heap s.heap [] := va_S.rf
  have oi := hts (.methodLink RX8 1 objectInit) (by decide +kernel)
  have oin := hts (.instanceMethod objectInit) (by decide +kernel)
  have oic := hts (.code objectInit ⟨#[0xb1]⟩ 1 none) (by decide +kernel)
  obtain ⟨QQ, hQQ⟩ : ∃ Q9, Q9 = MQ below (kQv D [(x, .inr (8, [.int (0 : Int32), .int (0 : Int32), .null, .null]))] A) args s 0 0 A := ⟨_, rfl⟩
  rw [← hQQ]
  obtain ⟨H, hH⟩ : ∃ H9, H9 = s.heap := ⟨_, rfl⟩
  have hP : va_P D vwCl ([(x, .inr (8, [.int (0 : Int32), .int (0 : Int32), .null, .null]))]) H := by rw [hH]; exact hP
  have hS : va_S A s.heap H [] := by rw [hH]; exact hS
  rw [← hH]
  refine lv_aload_n hx hb dX8_init_0 rfl (lv_at hl 0 rfl) ?_
  refine W.objInit hx hb hown oi oin oic rfl (by rw [hml]; exact hl.1) rfl dX8_init_1 (Nat.le_of_ble_eq_true rfl) (Nat.le_of_ble_eq_true rfl) ?_
  show W p l e ({ frames := 1, cells := 0, slots := 0, locals := 20 } : Room) s m args below meth c H _ 0 0 QQ (F0 m 4 ls [])
  rw [hQQ]
  exact kr_v hx hb hr hlocks hP hD hS dX8_init_4
theorem kd_X8_random : yX8_random.cls ≠ "java/lang/invoke/MethodHandle" ∧ yX8_random.cls ≠ "java/lang/invoke/VarHandle" ∧ (parseMethodDescriptor yX8_random.desc).map (fun d => d.parameters.length) = some 2 := by decide +kernel
set_option maxHeartbeats 8000000 in
set_option maxRecDepth 100000 in
theorem c_X8_random {l : Launch} {D : va_G} {cy : Nat → ClassId} : ∀ (d r sz : Nat) (sd : Int32), d ≤ 2 → Met l yX8_random wsX8_random ({ frames := d + 2, cells := nb d, slots := 4 * nb d, locals := 60 * (d + 1) } : Room) (kP (EN D cy) D [.ref r, .int (nI d)] [(r, .inr (9, [.int sd]))] sz) (kQR D (fun (u : (Nat → Nat) × va_W) (q : Nat) => q = u.1 1 ∧ ndOK (tGen d sd).1 (tGen d sd).2.1 u.1 u.2) (fun u _ => [(r, .inr (9, [.int (tGen d sd).2.2]))] ++ u.2) (va_A [(r, .inr (9, [.int sd]))] sz)) (nb d) (4 * nb d) (va_A [(r, .inr (9, [.int sd]))] sz) := by
  intro d
  induction d with
  | zero =>
    intro r sz sd hd
    refine kMet (y := yX8_random) (av := [.ref r, .int (nI 0)]) (cc := cX8_random) (maxL := 3) (ret := some (.object "PeepBoxLaw$Node")) (own := RX8) (Qc := fun A9 => (kQR D (fun (u : (Nat → Nat) × va_W) (q : Nat) => q = u.1 1 ∧ ndOK (tGen 0 sd).1 (tGen 0 sd).2.1 u.1 u.2) (fun u _ => [(r, .inr (9, [.int (tGen 0 sd).2.2]))] ++ u.2) A9)) (by decide) rfl rfl (Nat.le_of_ble_eq_true rfl) ?_
    intro p e s m args below meth c A hx hb hr hts hown hml hlocks hname hE hP hD hA hsz ls hl
    have hK := hE.1
    have hl : lv_has ls 3 [(0, .ref r), (1, .int (nI 0))] := hl
    have hS : va_S A s.heap s.heap [] := va_S.rf
    have k7 := hts (.classLink RX8 7 RX8) (by decide +kernel)
    have nX8 := hts (.instantiable RX8 4) (by decide +kernel)
    have iRX8 := hts (.initialized RX8) (by decide +kernel)
    have inX8 : ∀ w ∈ wsX80, w ∈ wsX8_random := by decide +kernel
    have l9 := hts (.methodLink RX8 9 yX8_init) (by decide +kernel)
    have imX8_init := hts (.instanceMethod yX8_init) (by decide +kernel)
    have f16 := hts (.fieldLink RX8 16 "PeepBoxLaw$Node" "kind" "I") (by decide +kernel)
    have f20 := hts (.fieldLink RX8 20 "PeepBoxLaw$Node" "number" "I") (by decide +kernel)
    obtain ⟨QQ, hQQ⟩ : ∃ Q9, Q9 = MQ below (kQR D (fun (u : (Nat → Nat) × va_W) (q : Nat) => q = u.1 1 ∧ ndOK (tGen 0 sd).1 (tGen 0 sd).2.1 u.1 u.2) (fun u _ => [(r, .inr (9, [.int (tGen 0 sd).2.2]))] ++ u.2) A) args s (nb 0) (4 * nb 0) A := ⟨_, rfl⟩
    rw [← hQQ]
    obtain ⟨H, hH⟩ : ∃ H9, H9 = s.heap := ⟨_, rfl⟩
    have hP : va_P D vwCl ([(r, .inr (9, [.int sd]))]) H := by rw [hH]; exact hP
    have hS : va_S A s.heap H [] := by rw [hH]; exact hS
    rw [← hH]
    refine va_new (ci := 8) (fs := [.int 0, .int 0, .null, .null]) (C := RX8) (T := TX8) (N := 4) hx hb hts inX8 tyX8 tyX8_ok hown k7 nX8 iRX8 hK hP hD hS hA rfl (fun j hj => by rcases (show j = 0 ∨ j = 1 ∨ j = 2 ∨ j = 3 by omega) with rfl | rfl | rfl | rfl <;> rfl) (by show 0 + 1 ≤ nb 0; decide) (by show 0 + 4 ≤ 4 * nb 0; decide) dX8_random_0 (fun x H hP hD hS => ?_)
    have hP : va_P D vwCl ([(r, .inr (9, [.int sd])), (x, .inr (8, [.int (0 : Int32), .int (0 : Int32), .null, .null]))]) H := hP
    have hD : va_D A ([(r, .inr (9, [.int sd])), (x, .inr (8, [.int (0 : Int32), .int (0 : Int32), .null, .null]))]) := hD
    refine lv_dup hx hb dX8_random_3 rfl ?_
    refine kc_v (va_runI (As := []) (rest := [.ref x]) ⟨hx, hb, hml, hown, hts⟩ (c_X8_init x H.size) (cwI 0 hts gX8_random_X8_init rfl rfl rfl iRX8 l9 imX8_init rfl kd_X8_init ⟨by dsimp only; omega, by dsimp only; omega⟩) ⟨kP_blind (EN_ok D cy) D _ _ _, kStart (EN_ok D cy) hE hP hD hS hA [1] rfl rfl _⟩ rfl rfl hl.1 rfl (lv_room (Nat.le_of_ble_eq_true rfl)) dX8_random_4 ⟨by show 0 + 1 + 0 ≤ nb 0; decide, by show 0 + 4 + 0 ≤ 4 * nb 0; decide⟩) hP hD hS hA [1] rfl (Nat.le_refl _) (fun H locs hP hD hS => ?_)
    have hP : va_P D vwCl ([(r, .inr (9, [.int sd])), (x, .inr (8, [.int (0 : Int32), .int (0 : Int32), .null, .null]))]) H := hP
    have hD : va_D A ([(r, .inr (9, [.int sd])), (x, .inr (8, [.int (0 : Int32), .int (0 : Int32), .null, .null]))]) := hD
    show W p l e ({ frames := 0 + 2, cells := (nb 0), slots := (4 * nb 0), locals := 60 * (0 + 1) } : Room) s m args below meth c H _ (0 + 1) (0 + 4) QQ (F0 m 7 ls [.ref x])
    refine lv_astore_n (lv' := [(2, .ref x), (0, .ref r), (1, .int (nI 0))]) hx hb dX8_random_7 rfl hl (by decide) rfl (fun ls hl => ?_)
    refine lv_aload_n hx hb dX8_random_8 rfl (lv_at hl 0 rfl) ?_
    refine lv_iload_n hx hb dX8_random_9 rfl (lv_at hl 2 rfl) ?_
    refine lv_if_ne (tgt := 21) hx hb dX8_random_10 (by decide) (fun h1 => absurd (rfl) h1) (fun _ => ?_)
    refine lv_aload_n hx hb dX8_random_13 rfl (lv_at hl 1 rfl) ?_
    refine lv_iconst (v := 2) hx hb dX8_random_14 (by decide) ?_
    refine kc_i (va_runV (As := [.int (2 : Int32)]) (rest := [.ref x]) ⟨hx, hb, hml, hown, hts⟩ (c_X9_below r (2) H.size sd (by omega) (by omega)) (cwV 1 hts gX8_random_X9_below rfl rfl rfl kd_X9_below ⟨by dsimp only; omega, by dsimp only; omega⟩) ⟨kP_blind (EN_ok D cy) D _ _ _, va_recv hK hP (ci := 9) (q0 := 0) rfl rfl, kStart (EN_ok D cy) hE hP hD hS hA [0] rfl rfl _⟩ rfl rfl hl.1 rfl (lv_room (Nat.le_of_ble_eq_true rfl)) dX8_random_15 ⟨by show _ + 0 ≤ nb 0; decide, by show _ + 0 ≤ 4 * nb 0; decide⟩) hP hD hS hA [0] rfl (Nat.le_refl _) (fun H locs hP hD hS => ?_)
    have hP : va_P D vwCl ([(r, .inr (9, [.int (rnS sd)])), (x, .inr (8, [.int (0 : Int32), .int (0 : Int32), .null, .null]))]) H := hP
    have hD : va_D A ([(r, .inr (9, [.int (rnS sd)])), (x, .inr (8, [.int (0 : Int32), .int (0 : Int32), .null, .null]))]) := hD
    show W p l e ({ frames := 0 + 2, cells := (nb 0), slots := (4 * nb 0), locals := 60 * (0 + 1) } : Room) s m args below meth c H _ (0 + 1) (0 + 4) QQ (F0 m 18 ls [.int (nI (rnV sd % (2))), .ref x])
    refine lv_goto (tgt := 27) hx hb dX8_random_18 (by decide) ?_
    obtain ⟨kd, ekd⟩ : ∃ y : Nat, y = tK 0 sd := ⟨_, rfl⟩
    rw [show (nI (rnV sd % (2))) = (nI kd) from (by rw [ekd]; rfl)]
    refine va_put (D := D) (ci := 8) (v := .int (nI kd)) (ty := .int) (C := RX8) (T := TX8) (N := 4) hx hb hts inX8 tyX8 tyX8_ok nmX8 hown hK hP hD hS 1 rfl rfl 0 (by decide) f16 (fun _ h9 => h9) (by decide +kernel) rfl rfl rfl (Nat.le_of_ble_eq_true rfl) dX8_random_27 (fun H locs hP hD hS => ?_)
    have hP : va_P D vwCl ([(r, .inr (9, [.int (rnS sd)])), (x, .inr (8, [.int (nI kd), .int (0 : Int32), .null, .null]))]) H := hP
    have hD : va_D A ([(r, .inr (9, [.int (rnS sd)])), (x, .inr (8, [.int (nI kd), .int (0 : Int32), .null, .null]))]) := hD
    refine lv_aload_n hx hb dX8_random_30 rfl (lv_at hl 0 rfl) ?_
    refine lv_aload_n hx hb dX8_random_31 rfl (lv_at hl 0 rfl) ?_
    refine va_get (D := D) (ci := 8) (v := .int (nI kd)) (C := RX8) (T := TX8) (N := 4) hx hb hts inX8 hown hK hP 1 rfl rfl 0 (by decide) f16 (fun _ h9 => h9) rfl dX8_random_32 ?_
    have J : ∀ (H : Heap) (locs : List Loc) (ls : Array Slot), va_P D vwCl [(r, .inr (9, [.int (tN kd (rnS sd)).2])), (x, .inr (8, [.int (nI kd), .int (0 : Int32), .null, .null]))] H → va_D A [(r, .inr (9, [.int (tN kd (rnS sd)).2])), (x, .inr (8, [.int (nI kd), .int (0 : Int32), .null, .null]))] → va_S A s.heap H locs → lv_has ls 3 [(2, .ref x), (0, .ref r), (1, .int (nI 0))] → W p l e ({ frames := 0 + 2, cells := nb 0, slots := 4 * nb 0, locals := 60 * (0 + 1) } : Room) s m args below meth c H locs (0 + 1) (0 + 4) QQ (F0 m 67 ls [.int (nI (tN kd (rnS sd)).1), .ref x]) := by
      intro H locs ls hP hD hS hl
      refine va_put (D := D) (ci := 8) (v := .int (nI (tN kd (rnS sd)).1)) (ty := .int) (C := RX8) (T := TX8) (N := 4) hx hb hts inX8 tyX8 tyX8_ok nmX8 hown hK hP hD hS 1 rfl rfl 1 (by decide) f20 (fun _ h9 => h9) (by decide +kernel) rfl rfl rfl (Nat.le_of_ble_eq_true rfl) dX8_random_67 (fun H locs hP hD hS => ?_)
      have hP : va_P D vwCl ([(r, .inr (9, [.int (tN kd (rnS sd)).2])), (x, .inr (8, [.int (nI kd), .int (nI (tN kd (rnS sd)).1), .null, .null]))]) H := hP
      have hD : va_D A ([(r, .inr (9, [.int (tN kd (rnS sd)).2])), (x, .inr (8, [.int (nI kd), .int (nI (tN kd (rnS sd)).1), .null, .null]))]) := hD
      refine lv_aload_n hx hb dX8_random_70 rfl (lv_at hl 0 rfl) ?_
      refine va_get (D := D) (ci := 8) (v := .int (nI kd)) (C := RX8) (T := TX8) (N := 4) hx hb hts inX8 hown hK hP 1 rfl rfl 0 (by decide) f16 (fun _ h9 => h9) rfl dX8_random_71 ?_
      refine lv_iconst (v := 1) hx hb dX8_random_74 (by decide) ?_
      by_cases hc : 1 < kd
      · skip
        exact absurd hc (by rw [ekd]; exact Nat.not_lt.mpr (Nat.le_of_lt_succ (tK_0 sd)))
      · skip
        refine lv_icmp_le (tgt := 100) hx hb dX8_random_75 (by decide) (fun _ => ?_) (fun h2 => absurd (nI_le (a := kd) (b := 1) (by omega) (by decide)) h2)
        refine lv_aload_n hx hb dX8_random_100 rfl (lv_at hl 0 rfl) ?_
        have eg : tGen 0 sd = (fun _ => kd, fun _ => nI (tN kd (rnS sd)).1, (tN kd (rnS sd)).2) := by rw [ekd]; rfl
        rw [hQQ, eg]
        exact kr_R (r := x) (fun _ => x, [(x, .inr (8, [.int (nI kd), .int (nI (tN kd (rnS sd)).1), .null, .null]))]) ⟨rfl, nd_leaf hc⟩ hx hb hr (Or.inl ⟨_, rfl⟩) hlocks hP hD hS dX8_random_101 (by decide) (by decide)
    by_cases h0 : kd = 0
    · skip
      refine lv_if_ne (tgt := 62) hx hb dX8_random_35 (by decide) (fun h2 => absurd (congrArg nI h0) h2) (fun _ => ?_)
      refine lv_aload_n hx hb dX8_random_38 rfl (lv_at hl 1 rfl) ?_
      refine lv_aload_n hx hb dX8_random_39 rfl (lv_at hl 1 rfl) ?_
      refine lv_bipush (v := 8) hx hb dX8_random_40 (by decide) ?_
      refine kc_i (va_runV (As := [.int (8 : Int32)]) (rest := [.ref r, .ref x]) ⟨hx, hb, hml, hown, hts⟩ (c_X9_below r (8) H.size (rnS sd) (by omega) (by omega)) (cwV 1 hts gX8_random_X9_below rfl rfl rfl kd_X9_below ⟨by dsimp only; omega, by dsimp only; omega⟩) ⟨kP_blind (EN_ok D cy) D _ _ _, va_recv hK hP (ci := 9) (q0 := 0) rfl rfl, kStart (EN_ok D cy) hE hP hD hS hA [0] rfl rfl _⟩ rfl rfl hl.1 rfl (lv_room (Nat.le_of_ble_eq_true rfl)) dX8_random_42 ⟨by show _ + 0 ≤ nb 0; decide, by show _ + 0 ≤ 4 * nb 0; decide⟩) hP hD hS hA [0] rfl (Nat.le_refl _) (fun H locs hP hD hS => ?_)
      have hP : va_P D vwCl ([(r, .inr (9, [.int (rnS (rnS sd))])), (x, .inr (8, [.int (nI kd), .int (0 : Int32), .null, .null]))]) H := hP
      have hD : va_D A ([(r, .inr (9, [.int (rnS (rnS sd))])), (x, .inr (8, [.int (nI kd), .int (0 : Int32), .null, .null]))]) := hD
      show W p l e ({ frames := 0 + 2, cells := (nb 0), slots := (4 * nb 0), locals := 60 * (0 + 1) } : Room) s m args below meth c H _ (0 + 1) (0 + 4) QQ (F0 m 45 ls [.int (nI (rnV (rnS sd) % (8))), .ref r, .ref x])
      by_cases h8 : rnV (rnS sd) % 8 = 0
      · skip
        refine lv_if_ne (tgt := 54) hx hb dX8_random_45 (by decide) (fun h3 => absurd (congrArg nI h8) h3) (fun _ => ?_)
        refine lv_sipush (v := 10000) hx hb dX8_random_48 (by decide) ?_
        refine lv_goto (tgt := 56) hx hb dX8_random_51 (by decide) ?_
        refine kc_i (va_runV (As := [.int (10000 : Int32)]) (rest := [.ref x]) ⟨hx, hb, hml, hown, hts⟩ (c_X9_below r (10000) H.size (rnS (rnS sd)) (by omega) (by omega)) (cwV 1 hts gX8_random_X9_below rfl rfl rfl kd_X9_below ⟨by dsimp only; omega, by dsimp only; omega⟩) ⟨kP_blind (EN_ok D cy) D _ _ _, va_recv hK hP (ci := 9) (q0 := 0) rfl rfl, kStart (EN_ok D cy) hE hP hD hS hA [0] rfl rfl _⟩ rfl rfl hl.1 rfl (lv_room (Nat.le_of_ble_eq_true rfl)) dX8_random_56 ⟨by show _ + 0 ≤ nb 0; decide, by show _ + 0 ≤ 4 * nb 0; decide⟩) hP hD hS hA [0] rfl (Nat.le_refl _) (fun H locs hP hD hS => ?_)
        have hP : va_P D vwCl ([(r, .inr (9, [.int (rnS (rnS (rnS sd)))])), (x, .inr (8, [.int (nI kd), .int (0 : Int32), .null, .null]))]) H := hP
        have hD : va_D A ([(r, .inr (9, [.int (rnS (rnS (rnS sd)))])), (x, .inr (8, [.int (nI kd), .int (0 : Int32), .null, .null]))]) := hD
        show W p l e ({ frames := 0 + 2, cells := (nb 0), slots := (4 * nb 0), locals := 60 * (0 + 1) } : Room) s m args below meth c H _ (0 + 1) (0 + 4) QQ (F0 m 59 ls [.int (nI (rnV (rnS (rnS sd)) % (10000))), .ref x])
        refine lv_goto (tgt := 67) hx hb dX8_random_59 (by decide) ?_
        have et : tN kd (rnS sd) = (rnV (rnS (rnS sd)) % 10000, rnS (rnS (rnS sd))) := by unfold tN; rw [if_pos h0, if_pos h8]
        have J := J H locs ls (by rw [et]; exact hP) (by rw [et]; exact hD) hS hl
        rw [et] at J
        exact J
      · skip
        refine lv_if_ne (tgt := 54) hx hb dX8_random_45 (by decide) (fun _ => ?_) (fun h3 => absurd h3 (fun z => h8 ((nI_eq (by omega) (by decide)).mp (show nI _ = nI 0 from z))))
        refine lv_bipush (v := 12) hx hb dX8_random_54 (by decide) ?_
        refine kc_i (va_runV (As := [.int (12 : Int32)]) (rest := [.ref x]) ⟨hx, hb, hml, hown, hts⟩ (c_X9_below r (12) H.size (rnS (rnS sd)) (by omega) (by omega)) (cwV 1 hts gX8_random_X9_below rfl rfl rfl kd_X9_below ⟨by dsimp only; omega, by dsimp only; omega⟩) ⟨kP_blind (EN_ok D cy) D _ _ _, va_recv hK hP (ci := 9) (q0 := 0) rfl rfl, kStart (EN_ok D cy) hE hP hD hS hA [0] rfl rfl _⟩ rfl rfl hl.1 rfl (lv_room (Nat.le_of_ble_eq_true rfl)) dX8_random_56 ⟨by show _ + 0 ≤ nb 0; decide, by show _ + 0 ≤ 4 * nb 0; decide⟩) hP hD hS hA [0] rfl (Nat.le_refl _) (fun H locs hP hD hS => ?_)
        have hP : va_P D vwCl ([(r, .inr (9, [.int (rnS (rnS (rnS sd)))])), (x, .inr (8, [.int (nI kd), .int (0 : Int32), .null, .null]))]) H := hP
        have hD : va_D A ([(r, .inr (9, [.int (rnS (rnS (rnS sd)))])), (x, .inr (8, [.int (nI kd), .int (0 : Int32), .null, .null]))]) := hD
        show W p l e ({ frames := 0 + 2, cells := (nb 0), slots := (4 * nb 0), locals := 60 * (0 + 1) } : Room) s m args below meth c H _ (0 + 1) (0 + 4) QQ (F0 m 59 ls [.int (nI (rnV (rnS (rnS sd)) % (12))), .ref x])
        refine lv_goto (tgt := 67) hx hb dX8_random_59 (by decide) ?_
        have et : tN kd (rnS sd) = (rnV (rnS (rnS sd)) % 12, rnS (rnS (rnS sd))) := by unfold tN; rw [if_pos h0, if_neg h8]
        have J := J H locs ls (by rw [et]; exact hP) (by rw [et]; exact hD) hS hl
        rw [et] at J
        exact J
    · skip
      refine lv_if_ne (tgt := 62) hx hb dX8_random_35 (by decide) (fun _ => ?_) (fun h2 => absurd h2 (fun z => h0 ((nI_eq (by rw [ekd]; have := tK_lt 0 sd; omega) (by decide)).mp (show nI kd = nI 0 from z))))
      refine lv_aload_n hx hb dX8_random_62 rfl (lv_at hl 1 rfl) ?_
      refine lv_iconst (v := 4) hx hb dX8_random_63 (by decide) ?_
      refine kc_i (va_runV (As := [.int (4 : Int32)]) (rest := [.ref x]) ⟨hx, hb, hml, hown, hts⟩ (c_X9_below r (4) H.size (rnS sd) (by omega) (by omega)) (cwV 1 hts gX8_random_X9_below rfl rfl rfl kd_X9_below ⟨by dsimp only; omega, by dsimp only; omega⟩) ⟨kP_blind (EN_ok D cy) D _ _ _, va_recv hK hP (ci := 9) (q0 := 0) rfl rfl, kStart (EN_ok D cy) hE hP hD hS hA [0] rfl rfl _⟩ rfl rfl hl.1 rfl (lv_room (Nat.le_of_ble_eq_true rfl)) dX8_random_64 ⟨by show _ + 0 ≤ nb 0; decide, by show _ + 0 ≤ 4 * nb 0; decide⟩) hP hD hS hA [0] rfl (Nat.le_refl _) (fun H locs hP hD hS => ?_)
      have hP : va_P D vwCl ([(r, .inr (9, [.int (rnS (rnS sd))])), (x, .inr (8, [.int (nI kd), .int (0 : Int32), .null, .null]))]) H := hP
      have hD : va_D A ([(r, .inr (9, [.int (rnS (rnS sd))])), (x, .inr (8, [.int (nI kd), .int (0 : Int32), .null, .null]))]) := hD
      show W p l e ({ frames := 0 + 2, cells := (nb 0), slots := (4 * nb 0), locals := 60 * (0 + 1) } : Room) s m args below meth c H _ (0 + 1) (0 + 4) QQ (F0 m 67 ls [.int (nI (rnV (rnS sd) % (4))), .ref x])
      have et : tN kd (rnS sd) = (rnV (rnS sd) % 4, rnS (rnS sd)) := by unfold tN; rw [if_neg h0]
      have J := J H locs ls (by rw [et]; exact hP) (by rw [et]; exact hD) hS hl
      rw [et] at J
      exact J
  | succ d ih =>
    intro r sz sd hd
    refine kMet (y := yX8_random) (av := [.ref r, .int (nI (d + 1))]) (cc := cX8_random) (maxL := 3) (ret := some (.object "PeepBoxLaw$Node")) (own := RX8) (Qc := fun A9 => (kQR D (fun (u : (Nat → Nat) × va_W) (q : Nat) => q = u.1 1 ∧ ndOK (tGen (d + 1) sd).1 (tGen (d + 1) sd).2.1 u.1 u.2) (fun u _ => [(r, .inr (9, [.int (tGen (d + 1) sd).2.2]))] ++ u.2) A9)) (by decide) rfl rfl (Nat.le_of_ble_eq_true rfl) ?_
    intro p e s m args below meth c A hx hb hr hts hown hml hlocks hname hE hP hD hA hsz ls hl
    have hK := hE.1
    have hl : lv_has ls 3 [(0, .ref r), (1, .int (nI (d + 1)))] := hl
    have hS : va_S A s.heap s.heap [] := va_S.rf
    have k7 := hts (.classLink RX8 7 RX8) (by decide +kernel)
    have nX8 := hts (.instantiable RX8 4) (by decide +kernel)
    have iRX8 := hts (.initialized RX8) (by decide +kernel)
    have inX8 : ∀ w ∈ wsX80, w ∈ wsX8_random := by decide +kernel
    have l9 := hts (.methodLink RX8 9 yX8_init) (by decide +kernel)
    have imX8_init := hts (.instanceMethod yX8_init) (by decide +kernel)
    have f16 := hts (.fieldLink RX8 16 "PeepBoxLaw$Node" "kind" "I") (by decide +kernel)
    have f20 := hts (.fieldLink RX8 20 "PeepBoxLaw$Node" "number" "I") (by decide +kernel)
    have f27 := hts (.fieldLink RX8 27 "PeepBoxLaw$Node" "left" "LPeepBoxLaw$Node;") (by decide +kernel)
    have f31 := hts (.fieldLink RX8 31 "PeepBoxLaw$Node" "right" "LPeepBoxLaw$Node;") (by decide +kernel)
    obtain ⟨QQ, hQQ⟩ : ∃ Q9, Q9 = MQ below (kQR D (fun (u : (Nat → Nat) × va_W) (q : Nat) => q = u.1 1 ∧ ndOK (tGen (d + 1) sd).1 (tGen (d + 1) sd).2.1 u.1 u.2) (fun u _ => [(r, .inr (9, [.int (tGen (d + 1) sd).2.2]))] ++ u.2) A) args s (nb (d + 1)) (4 * nb (d + 1)) A := ⟨_, rfl⟩
    rw [← hQQ]
    obtain ⟨H, hH⟩ : ∃ H9, H9 = s.heap := ⟨_, rfl⟩
    have hP : va_P D vwCl ([(r, .inr (9, [.int sd]))]) H := by rw [hH]; exact hP
    have hS : va_S A s.heap H [] := by rw [hH]; exact hS
    rw [← hH]
    refine va_new (ci := 8) (fs := [.int 0, .int 0, .null, .null]) (C := RX8) (T := TX8) (N := 4) hx hb hts inX8 tyX8 tyX8_ok hown k7 nX8 iRX8 hK hP hD hS hA rfl (fun j hj => by rcases (show j = 0 ∨ j = 1 ∨ j = 2 ∨ j = 3 by omega) with rfl | rfl | rfl | rfl <;> rfl) (by show 0 + 1 ≤ nb (d + 1); rw [nb_s]; omega) (by show 0 + 4 ≤ 4 * nb (d + 1); rw [nb_s]; omega) dX8_random_0 (fun x H hP hD hS => ?_)
    have hP : va_P D vwCl ([(r, .inr (9, [.int sd])), (x, .inr (8, [.int (0 : Int32), .int (0 : Int32), .null, .null]))]) H := hP
    have hD : va_D A ([(r, .inr (9, [.int sd])), (x, .inr (8, [.int (0 : Int32), .int (0 : Int32), .null, .null]))]) := hD
    refine lv_dup hx hb dX8_random_3 rfl ?_
    refine kc_v (va_runI (As := []) (rest := [.ref x]) ⟨hx, hb, hml, hown, hts⟩ (c_X8_init x H.size) (cwI 0 hts gX8_random_X8_init rfl rfl rfl iRX8 l9 imX8_init rfl kd_X8_init ⟨by dsimp only; omega, by dsimp only; omega⟩) ⟨kP_blind (EN_ok D cy) D _ _ _, kStart (EN_ok D cy) hE hP hD hS hA [1] rfl rfl _⟩ rfl rfl hl.1 rfl (lv_room (Nat.le_of_ble_eq_true rfl)) dX8_random_4 ⟨by show 0 + 1 + 0 ≤ nb (d + 1); rw [nb_s]; omega, by show 0 + 4 + 0 ≤ 4 * nb (d + 1); rw [nb_s]; omega⟩) hP hD hS hA [1] rfl (Nat.le_refl _) (fun H locs hP hD hS => ?_)
    have hP : va_P D vwCl ([(r, .inr (9, [.int sd])), (x, .inr (8, [.int (0 : Int32), .int (0 : Int32), .null, .null]))]) H := hP
    have hD : va_D A ([(r, .inr (9, [.int sd])), (x, .inr (8, [.int (0 : Int32), .int (0 : Int32), .null, .null]))]) := hD
    show W p l e ({ frames := (d + 1) + 2, cells := (nb (d + 1)), slots := (4 * nb (d + 1)), locals := 60 * ((d + 1) + 1) } : Room) s m args below meth c H _ (0 + 1) (0 + 4) QQ (F0 m 7 ls [.ref x])
    refine lv_astore_n (lv' := [(2, .ref x), (0, .ref r), (1, .int (nI (d + 1)))]) hx hb dX8_random_7 rfl hl (by decide) rfl (fun ls hl => ?_)
    refine lv_aload_n hx hb dX8_random_8 rfl (lv_at hl 0 rfl) ?_
    refine lv_iload_n hx hb dX8_random_9 rfl (lv_at hl 2 rfl) ?_
    refine lv_if_ne (tgt := 21) hx hb dX8_random_10 (by decide) (fun _ => ?_) (fun h1 => absurd h1 (fun z => by have := (nI_eq (by omega) (by omega)).mp (show nI (d + 1) = nI 0 from z); omega))
    refine lv_aload_n hx hb dX8_random_21 rfl (lv_at hl 1 rfl) ?_
    refine lv_bipush (v := 6) hx hb dX8_random_22 (by decide) ?_
    refine kc_i (va_runV (As := [.int (6 : Int32)]) (rest := [.ref x]) ⟨hx, hb, hml, hown, hts⟩ (c_X9_below r (6) H.size sd (by omega) (by omega)) (cwV 1 hts gX8_random_X9_below rfl rfl rfl kd_X9_below ⟨by dsimp only; omega, by dsimp only; omega⟩) ⟨kP_blind (EN_ok D cy) D _ _ _, va_recv hK hP (ci := 9) (q0 := 0) rfl rfl, kStart (EN_ok D cy) hE hP hD hS hA [0] rfl rfl _⟩ rfl rfl hl.1 rfl (lv_room (Nat.le_of_ble_eq_true rfl)) dX8_random_24 ⟨by show _ + 0 ≤ nb (d + 1); rw [nb_s]; omega, by show _ + 0 ≤ 4 * nb (d + 1); rw [nb_s]; omega⟩) hP hD hS hA [0] rfl (Nat.le_refl _) (fun H locs hP hD hS => ?_)
    have hP : va_P D vwCl ([(r, .inr (9, [.int (rnS sd)])), (x, .inr (8, [.int (0 : Int32), .int (0 : Int32), .null, .null]))]) H := hP
    have hD : va_D A ([(r, .inr (9, [.int (rnS sd)])), (x, .inr (8, [.int (0 : Int32), .int (0 : Int32), .null, .null]))]) := hD
    show W p l e ({ frames := (d + 1) + 2, cells := (nb (d + 1)), slots := (4 * nb (d + 1)), locals := 60 * ((d + 1) + 1) } : Room) s m args below meth c H _ (0 + 1) (0 + 4) QQ (F0 m 27 ls [.int (nI (rnV sd % (6))), .ref x])
    obtain ⟨kd, ekd⟩ : ∃ y : Nat, y = tK (d + 1) sd := ⟨_, rfl⟩
    rw [show (nI (rnV sd % (6))) = (nI kd) from (by rw [ekd]; rfl)]
    refine va_put (D := D) (ci := 8) (v := .int (nI kd)) (ty := .int) (C := RX8) (T := TX8) (N := 4) hx hb hts inX8 tyX8 tyX8_ok nmX8 hown hK hP hD hS 1 rfl rfl 0 (by decide) f16 (fun _ h9 => h9) (by decide +kernel) rfl rfl rfl (Nat.le_of_ble_eq_true rfl) dX8_random_27 (fun H locs hP hD hS => ?_)
    have hP : va_P D vwCl ([(r, .inr (9, [.int (rnS sd)])), (x, .inr (8, [.int (nI kd), .int (0 : Int32), .null, .null]))]) H := hP
    have hD : va_D A ([(r, .inr (9, [.int (rnS sd)])), (x, .inr (8, [.int (nI kd), .int (0 : Int32), .null, .null]))]) := hD
    refine lv_aload_n hx hb dX8_random_30 rfl (lv_at hl 0 rfl) ?_
    refine lv_aload_n hx hb dX8_random_31 rfl (lv_at hl 0 rfl) ?_
    refine va_get (D := D) (ci := 8) (v := .int (nI kd)) (C := RX8) (T := TX8) (N := 4) hx hb hts inX8 hown hK hP 1 rfl rfl 0 (by decide) f16 (fun _ h9 => h9) rfl dX8_random_32 ?_
    have J : ∀ (H : Heap) (locs : List Loc) (ls : Array Slot), va_P D vwCl [(r, .inr (9, [.int (tN kd (rnS sd)).2])), (x, .inr (8, [.int (nI kd), .int (0 : Int32), .null, .null]))] H → va_D A [(r, .inr (9, [.int (tN kd (rnS sd)).2])), (x, .inr (8, [.int (nI kd), .int (0 : Int32), .null, .null]))] → va_S A s.heap H locs → lv_has ls 3 [(2, .ref x), (0, .ref r), (1, .int (nI (d + 1)))] → W p l e ({ frames := (d + 1) + 2, cells := nb (d + 1), slots := 4 * nb (d + 1), locals := 60 * ((d + 1) + 1) } : Room) s m args below meth c H locs (0 + 1) (0 + 4) QQ (F0 m 67 ls [.int (nI (tN kd (rnS sd)).1), .ref x]) := by
      intro H locs ls hP hD hS hl
      refine va_put (D := D) (ci := 8) (v := .int (nI (tN kd (rnS sd)).1)) (ty := .int) (C := RX8) (T := TX8) (N := 4) hx hb hts inX8 tyX8 tyX8_ok nmX8 hown hK hP hD hS 1 rfl rfl 1 (by decide) f20 (fun _ h9 => h9) (by decide +kernel) rfl rfl rfl (Nat.le_of_ble_eq_true rfl) dX8_random_67 (fun H locs hP hD hS => ?_)
      have hP : va_P D vwCl ([(r, .inr (9, [.int (tN kd (rnS sd)).2])), (x, .inr (8, [.int (nI kd), .int (nI (tN kd (rnS sd)).1), .null, .null]))]) H := hP
      have hD : va_D A ([(r, .inr (9, [.int (tN kd (rnS sd)).2])), (x, .inr (8, [.int (nI kd), .int (nI (tN kd (rnS sd)).1), .null, .null]))]) := hD
      refine lv_aload_n hx hb dX8_random_70 rfl (lv_at hl 0 rfl) ?_
      refine va_get (D := D) (ci := 8) (v := .int (nI kd)) (C := RX8) (T := TX8) (N := 4) hx hb hts inX8 hown hK hP 1 rfl rfl 0 (by decide) f16 (fun _ h9 => h9) rfl dX8_random_71 ?_
      refine lv_iconst (v := 1) hx hb dX8_random_74 (by decide) ?_
      by_cases hc : 1 < kd
      · skip
        refine lv_icmp_le (tgt := 100) hx hb dX8_random_75 (by decide) (fun h2 => absurd h2 (nI_ge hc (by rw [ekd]; have := tK_lt (d + 1) sd; omega))) (fun _ => ?_)
        refine lv_aload_n hx hb dX8_random_78 rfl (lv_at hl 0 rfl) ?_
        refine lv_aload_n hx hb dX8_random_79 rfl (lv_at hl 1 rfl) ?_
        refine lv_iload_n hx hb dX8_random_80 rfl (lv_at hl 2 rfl) ?_
        refine lv_iconst (v := 1) hx hb dX8_random_81 (by decide) ?_
        refine lv_isub hx hb dX8_random_82 ?_
        rw [show ((nI (d + 1)) - (1 : Int32)) = (nI d) from (show nI (d + 1) - nI 1 = nI d from pk_sub (by omega))]
        refine kc_R (va_runS (As := [.ref r, .int (nI d)]) (rest := [.ref x]) ⟨hx, hb, hml, hown, hts⟩ (ih r H.size (tN kd (rnS sd)).2 (by omega)) (va_cwS 2 hts gX8_random_X8_random rfl rfl rfl kd_X8_random ⟨by dsimp only; omega, by dsimp only; omega⟩) ⟨kP_blind (EN_ok D cy) D _ _ _, kStart (EN_ok D cy) hE hP hD hS hA [0] rfl rfl _⟩ rfl rfl hl.1 rfl (lv_room (Nat.le_of_ble_eq_true rfl)) dX8_random_83 ⟨by show (0 + 1) + nb d ≤ nb (d + 1); rw [nb_s]; omega, by show (0 + 4) + 4 * nb d ≤ 4 * nb (d + 1); rw [nb_s]; omega⟩) hP hD hS hA [0] rfl (fun _ _ => Nat.succ_le_succ (Nat.zero_le _)) (fun u q H locs hu hP hD hS => ?_)
        obtain ⟨rA, LA⟩ := u
        obtain ⟨rfl, okLA⟩ := hu
        rw [wjn_set0] at hP hD
        have hP : va_P D vwCl ([(r, .inr (9, [.int (tGen d (tN kd (rnS sd)).2).2.2])), (x, .inr (8, [.int (nI kd), .int (nI (tN kd (rnS sd)).1), .null, .null]))] ++ LA) H := hP
        have hD : va_D A ([(r, .inr (9, [.int (tGen d (tN kd (rnS sd)).2).2.2])), (x, .inr (8, [.int (nI kd), .int (nI (tN kd (rnS sd)).1), .null, .null]))] ++ LA) := hD
        show W p l e ({ frames := (d + 1) + 2, cells := (nb (d + 1)), slots := (4 * nb (d + 1)), locals := 60 * ((d + 1) + 1) } : Room) s m args below meth c H _ (0 + 1 + nb d) (0 + 4 + 4 * nb d) QQ (F0 m 86 ls [.ref (rA 1), .ref x])
        refine va_put (D := D) (ci := 8) (v := .ref (rA 1)) (ty := (.object "PeepBoxLaw$Node")) (C := RX8) (T := TX8) (N := 4) hx hb hts inX8 tyX8 tyX8_ok nmX8 hown hK hP hD hS 1 rfl rfl 2 (by decide) f27 (fun _ h9 => h9) (by decide +kernel) rfl rfl rfl (Nat.le_of_ble_eq_true rfl) dX8_random_86 (fun H locs hP hD hS => ?_)
        have hP : va_P D vwCl ([(r, .inr (9, [.int (tGen d (tN kd (rnS sd)).2).2.2])), (x, .inr (8, [.int (nI kd), .int (nI (tN kd (rnS sd)).1), .ref (rA 1), .null]))] ++ LA) H := hP
        have hD : va_D A ([(r, .inr (9, [.int (tGen d (tN kd (rnS sd)).2).2.2])), (x, .inr (8, [.int (nI kd), .int (nI (tN kd (rnS sd)).1), .ref (rA 1), .null]))] ++ LA) := hD
        refine lv_aload_n hx hb dX8_random_89 rfl (lv_at hl 0 rfl) ?_
        refine lv_aload_n hx hb dX8_random_90 rfl (lv_at hl 1 rfl) ?_
        refine lv_iload_n hx hb dX8_random_91 rfl (lv_at hl 2 rfl) ?_
        refine lv_iconst (v := 1) hx hb dX8_random_92 (by decide) ?_
        refine lv_isub hx hb dX8_random_93 ?_
        rw [show ((nI (d + 1)) - (1 : Int32)) = (nI d) from (show nI (d + 1) - nI 1 = nI d from pk_sub (by omega))]
        refine kc_R (va_runS (As := [.ref r, .int (nI d)]) (rest := [.ref x]) ⟨hx, hb, hml, hown, hts⟩ (ih r H.size (tGen d (tN kd (rnS sd)).2).2.2 (by omega)) (va_cwS 2 hts gX8_random_X8_random rfl rfl rfl kd_X8_random ⟨by dsimp only; omega, by dsimp only; omega⟩) ⟨kP_blind (EN_ok D cy) D _ _ _, kStart (EN_ok D cy) hE hP hD hS hA [0] rfl rfl _⟩ rfl rfl hl.1 rfl (lv_room (Nat.le_of_ble_eq_true rfl)) dX8_random_94 ⟨by show (0 + 1 + nb d) + nb d ≤ nb (d + 1); rw [nb_s]; omega, by show (0 + 4 + 4 * nb d) + 4 * nb d ≤ 4 * nb (d + 1); rw [nb_s]; omega⟩) hP hD hS hA [0] rfl (fun _ _ => Nat.succ_le_succ (Nat.zero_le _)) (fun u q H locs hu hP hD hS => ?_)
        obtain ⟨rB, LB⟩ := u
        obtain ⟨rfl, okLB⟩ := hu
        rw [wjn_set0] at hP hD
        have hP : va_P D vwCl ([(r, .inr (9, [.int (tGen d (tGen d (tN kd (rnS sd)).2).2.2).2.2])), (x, .inr (8, [.int (nI kd), .int (nI (tN kd (rnS sd)).1), .ref (rA 1), .null]))] ++ LA ++ LB) H := hP
        have hD : va_D A ([(r, .inr (9, [.int (tGen d (tGen d (tN kd (rnS sd)).2).2.2).2.2])), (x, .inr (8, [.int (nI kd), .int (nI (tN kd (rnS sd)).1), .ref (rA 1), .null]))] ++ LA ++ LB) := hD
        show W p l e ({ frames := (d + 1) + 2, cells := (nb (d + 1)), slots := (4 * nb (d + 1)), locals := 60 * ((d + 1) + 1) } : Room) s m args below meth c H _ (0 + 1 + nb d + nb d) (0 + 4 + 4 * nb d + 4 * nb d) QQ (F0 m 97 ls [.ref (rB 1), .ref x])
        refine va_put (D := D) (ci := 8) (v := .ref (rB 1)) (ty := (.object "PeepBoxLaw$Node")) (C := RX8) (T := TX8) (N := 4) hx hb hts inX8 tyX8 tyX8_ok nmX8 hown hK hP hD hS 1 rfl rfl 3 (by decide) f31 (fun _ h9 => h9) (by decide +kernel) rfl rfl rfl (Nat.le_of_ble_eq_true rfl) dX8_random_97 (fun H locs hP hD hS => ?_)
        have hP : va_P D vwCl ([(r, .inr (9, [.int (tGen d (tGen d (tN kd (rnS sd)).2).2.2).2.2])), (x, .inr (8, [.int (nI kd), .int (nI (tN kd (rnS sd)).1), .ref (rA 1), .ref (rB 1)]))] ++ LA ++ LB) H := hP
        have hD : va_D A ([(r, .inr (9, [.int (tGen d (tGen d (tN kd (rnS sd)).2).2.2).2.2])), (x, .inr (8, [.int (nI kd), .int (nI (tN kd (rnS sd)).1), .ref (rA 1), .ref (rB 1)]))] ++ LA ++ LB) := hD
        refine lv_aload_n hx hb dX8_random_100 rfl (lv_at hl 0 rfl) ?_
        have eg : tGen (d + 1) sd = (tMix kd (tGen d (tN kd (rnS sd)).2).1 (tGen d (tGen d (tN kd (rnS sd)).2).2.2).1, tMix (nI (tN kd (rnS sd)).1) (tGen d (tN kd (rnS sd)).2).2.1 (tGen d (tGen d (tN kd (rnS sd)).2).2.2).2.1, (tGen d (tGen d (tN kd (rnS sd)).2).2.2).2.2) := by rw [ekd] at hc ⊢; rw [tGen, if_pos hc]
        rw [hQQ, eg]
        have hP : va_P D vwCl ([(r, .inr (9, [.int (tGen d (tGen d (tN kd (rnS sd)).2).2.2).2.2]))] ++ (([(x, .inr (8, [.int (nI kd), .int (nI (tN kd (rnS sd)).1), .ref (rA 1), .ref (rB 1)]))] ++ LA) ++ LB)) H := hP
        have hD : va_D A ([(r, .inr (9, [.int (tGen d (tGen d (tN kd (rnS sd)).2).2.2).2.2]))] ++ (([(x, .inr (8, [.int (nI kd), .int (nI (tN kd (rnS sd)).1), .ref (rA 1), .ref (rB 1)]))] ++ LA) ++ LB)) := hD
        exact kr_R (r := x) ((tMix x rA rB, ([(x, .inr (8, [.int (nI kd), .int (nI (tN kd (rnS sd)).1), .ref (rA 1), .ref (rB 1)]))] ++ LA) ++ LB) : (Nat → Nat) × va_W) ⟨rfl, nd_merge hc okLA okLB (tGen_low d (by omega) _) (tGen_low d (by omega) _)⟩ hx hb hr (Or.inl ⟨_, rfl⟩) hlocks hP hD hS dX8_random_101 (by rw [nb_s]; omega) (by rw [nb_s]; omega)
      · skip
        refine lv_icmp_le (tgt := 100) hx hb dX8_random_75 (by decide) (fun _ => ?_) (fun h2 => absurd (nI_le (a := kd) (b := 1) (by omega) (by decide)) h2)
        refine lv_aload_n hx hb dX8_random_100 rfl (lv_at hl 0 rfl) ?_
        have eg : tGen (d + 1) sd = (fun _ => kd, fun _ => nI (tN kd (rnS sd)).1, (tN kd (rnS sd)).2) := by rw [ekd] at hc ⊢; rw [tGen, if_neg hc]
        rw [hQQ, eg]
        exact kr_R (r := x) (fun _ => x, [(x, .inr (8, [.int (nI kd), .int (nI (tN kd (rnS sd)).1), .null, .null]))]) ⟨rfl, nd_leaf hc⟩ hx hb hr (Or.inl ⟨_, rfl⟩) hlocks hP hD hS dX8_random_101 (by rw [nb_s]; omega) (by rw [nb_s]; omega)
    by_cases h0 : kd = 0
    · skip
      refine lv_if_ne (tgt := 62) hx hb dX8_random_35 (by decide) (fun h2 => absurd (congrArg nI h0) h2) (fun _ => ?_)
      refine lv_aload_n hx hb dX8_random_38 rfl (lv_at hl 1 rfl) ?_
      refine lv_aload_n hx hb dX8_random_39 rfl (lv_at hl 1 rfl) ?_
      refine lv_bipush (v := 8) hx hb dX8_random_40 (by decide) ?_
      refine kc_i (va_runV (As := [.int (8 : Int32)]) (rest := [.ref r, .ref x]) ⟨hx, hb, hml, hown, hts⟩ (c_X9_below r (8) H.size (rnS sd) (by omega) (by omega)) (cwV 1 hts gX8_random_X9_below rfl rfl rfl kd_X9_below ⟨by dsimp only; omega, by dsimp only; omega⟩) ⟨kP_blind (EN_ok D cy) D _ _ _, va_recv hK hP (ci := 9) (q0 := 0) rfl rfl, kStart (EN_ok D cy) hE hP hD hS hA [0] rfl rfl _⟩ rfl rfl hl.1 rfl (lv_room (Nat.le_of_ble_eq_true rfl)) dX8_random_42 ⟨by show _ + 0 ≤ nb (d + 1); rw [nb_s]; omega, by show _ + 0 ≤ 4 * nb (d + 1); rw [nb_s]; omega⟩) hP hD hS hA [0] rfl (Nat.le_refl _) (fun H locs hP hD hS => ?_)
      have hP : va_P D vwCl ([(r, .inr (9, [.int (rnS (rnS sd))])), (x, .inr (8, [.int (nI kd), .int (0 : Int32), .null, .null]))]) H := hP
      have hD : va_D A ([(r, .inr (9, [.int (rnS (rnS sd))])), (x, .inr (8, [.int (nI kd), .int (0 : Int32), .null, .null]))]) := hD
      show W p l e ({ frames := (d + 1) + 2, cells := (nb (d + 1)), slots := (4 * nb (d + 1)), locals := 60 * ((d + 1) + 1) } : Room) s m args below meth c H _ (0 + 1) (0 + 4) QQ (F0 m 45 ls [.int (nI (rnV (rnS sd) % (8))), .ref r, .ref x])
      by_cases h8 : rnV (rnS sd) % 8 = 0
      · skip
        refine lv_if_ne (tgt := 54) hx hb dX8_random_45 (by decide) (fun h3 => absurd (congrArg nI h8) h3) (fun _ => ?_)
        refine lv_sipush (v := 10000) hx hb dX8_random_48 (by decide) ?_
        refine lv_goto (tgt := 56) hx hb dX8_random_51 (by decide) ?_
        refine kc_i (va_runV (As := [.int (10000 : Int32)]) (rest := [.ref x]) ⟨hx, hb, hml, hown, hts⟩ (c_X9_below r (10000) H.size (rnS (rnS sd)) (by omega) (by omega)) (cwV 1 hts gX8_random_X9_below rfl rfl rfl kd_X9_below ⟨by dsimp only; omega, by dsimp only; omega⟩) ⟨kP_blind (EN_ok D cy) D _ _ _, va_recv hK hP (ci := 9) (q0 := 0) rfl rfl, kStart (EN_ok D cy) hE hP hD hS hA [0] rfl rfl _⟩ rfl rfl hl.1 rfl (lv_room (Nat.le_of_ble_eq_true rfl)) dX8_random_56 ⟨by show _ + 0 ≤ nb (d + 1); rw [nb_s]; omega, by show _ + 0 ≤ 4 * nb (d + 1); rw [nb_s]; omega⟩) hP hD hS hA [0] rfl (Nat.le_refl _) (fun H locs hP hD hS => ?_)
        have hP : va_P D vwCl ([(r, .inr (9, [.int (rnS (rnS (rnS sd)))])), (x, .inr (8, [.int (nI kd), .int (0 : Int32), .null, .null]))]) H := hP
        have hD : va_D A ([(r, .inr (9, [.int (rnS (rnS (rnS sd)))])), (x, .inr (8, [.int (nI kd), .int (0 : Int32), .null, .null]))]) := hD
        show W p l e ({ frames := (d + 1) + 2, cells := (nb (d + 1)), slots := (4 * nb (d + 1)), locals := 60 * ((d + 1) + 1) } : Room) s m args below meth c H _ (0 + 1) (0 + 4) QQ (F0 m 59 ls [.int (nI (rnV (rnS (rnS sd)) % (10000))), .ref x])
        refine lv_goto (tgt := 67) hx hb dX8_random_59 (by decide) ?_
        have et : tN kd (rnS sd) = (rnV (rnS (rnS sd)) % 10000, rnS (rnS (rnS sd))) := by unfold tN; rw [if_pos h0, if_pos h8]
        have J := J H locs ls (by rw [et]; exact hP) (by rw [et]; exact hD) hS hl
        rw [et] at J
        exact J
      · skip
        refine lv_if_ne (tgt := 54) hx hb dX8_random_45 (by decide) (fun _ => ?_) (fun h3 => absurd h3 (fun z => h8 ((nI_eq (by omega) (by decide)).mp (show nI _ = nI 0 from z))))
        refine lv_bipush (v := 12) hx hb dX8_random_54 (by decide) ?_
        refine kc_i (va_runV (As := [.int (12 : Int32)]) (rest := [.ref x]) ⟨hx, hb, hml, hown, hts⟩ (c_X9_below r (12) H.size (rnS (rnS sd)) (by omega) (by omega)) (cwV 1 hts gX8_random_X9_below rfl rfl rfl kd_X9_below ⟨by dsimp only; omega, by dsimp only; omega⟩) ⟨kP_blind (EN_ok D cy) D _ _ _, va_recv hK hP (ci := 9) (q0 := 0) rfl rfl, kStart (EN_ok D cy) hE hP hD hS hA [0] rfl rfl _⟩ rfl rfl hl.1 rfl (lv_room (Nat.le_of_ble_eq_true rfl)) dX8_random_56 ⟨by show _ + 0 ≤ nb (d + 1); rw [nb_s]; omega, by show _ + 0 ≤ 4 * nb (d + 1); rw [nb_s]; omega⟩) hP hD hS hA [0] rfl (Nat.le_refl _) (fun H locs hP hD hS => ?_)
        have hP : va_P D vwCl ([(r, .inr (9, [.int (rnS (rnS (rnS sd)))])), (x, .inr (8, [.int (nI kd), .int (0 : Int32), .null, .null]))]) H := hP
        have hD : va_D A ([(r, .inr (9, [.int (rnS (rnS (rnS sd)))])), (x, .inr (8, [.int (nI kd), .int (0 : Int32), .null, .null]))]) := hD
        show W p l e ({ frames := (d + 1) + 2, cells := (nb (d + 1)), slots := (4 * nb (d + 1)), locals := 60 * ((d + 1) + 1) } : Room) s m args below meth c H _ (0 + 1) (0 + 4) QQ (F0 m 59 ls [.int (nI (rnV (rnS (rnS sd)) % (12))), .ref x])
        refine lv_goto (tgt := 67) hx hb dX8_random_59 (by decide) ?_
        have et : tN kd (rnS sd) = (rnV (rnS (rnS sd)) % 12, rnS (rnS (rnS sd))) := by unfold tN; rw [if_pos h0, if_neg h8]
        have J := J H locs ls (by rw [et]; exact hP) (by rw [et]; exact hD) hS hl
        rw [et] at J
        exact J
    · skip
      refine lv_if_ne (tgt := 62) hx hb dX8_random_35 (by decide) (fun _ => ?_) (fun h2 => absurd h2 (fun z => h0 ((nI_eq (by rw [ekd]; have := tK_lt (d + 1) sd; omega) (by decide)).mp (show nI kd = nI 0 from z))))
      refine lv_aload_n hx hb dX8_random_62 rfl (lv_at hl 1 rfl) ?_
      refine lv_iconst (v := 4) hx hb dX8_random_63 (by decide) ?_
      refine kc_i (va_runV (As := [.int (4 : Int32)]) (rest := [.ref x]) ⟨hx, hb, hml, hown, hts⟩ (c_X9_below r (4) H.size (rnS sd) (by omega) (by omega)) (cwV 1 hts gX8_random_X9_below rfl rfl rfl kd_X9_below ⟨by dsimp only; omega, by dsimp only; omega⟩) ⟨kP_blind (EN_ok D cy) D _ _ _, va_recv hK hP (ci := 9) (q0 := 0) rfl rfl, kStart (EN_ok D cy) hE hP hD hS hA [0] rfl rfl _⟩ rfl rfl hl.1 rfl (lv_room (Nat.le_of_ble_eq_true rfl)) dX8_random_64 ⟨by show _ + 0 ≤ nb (d + 1); rw [nb_s]; omega, by show _ + 0 ≤ 4 * nb (d + 1); rw [nb_s]; omega⟩) hP hD hS hA [0] rfl (Nat.le_refl _) (fun H locs hP hD hS => ?_)
      have hP : va_P D vwCl ([(r, .inr (9, [.int (rnS (rnS sd))])), (x, .inr (8, [.int (nI kd), .int (0 : Int32), .null, .null]))]) H := hP
      have hD : va_D A ([(r, .inr (9, [.int (rnS (rnS sd))])), (x, .inr (8, [.int (nI kd), .int (0 : Int32), .null, .null]))]) := hD
      show W p l e ({ frames := (d + 1) + 2, cells := (nb (d + 1)), slots := (4 * nb (d + 1)), locals := 60 * ((d + 1) + 1) } : Room) s m args below meth c H _ (0 + 1) (0 + 4) QQ (F0 m 67 ls [.int (nI (rnV (rnS sd) % (4))), .ref x])
      have et : tN kd (rnS sd) = (rnV (rnS sd) % 4, rnS (rnS sd)) := by unfold tN; rw [if_neg h0]
      have J := J H locs ls (by rw [et]; exact hP) (by rw [et]; exact hD) hS hl
      rw [et] at J
      exact J
