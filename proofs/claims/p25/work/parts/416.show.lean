/-! randomShow whole: what it draws (z..), what it writes (zT), the show as numbers (zL) -/
def zW (sd : Int32) : Nat := 1 + rnV sd % 6
def zH (sd : Int32) : Nat := 1 + rnV (rnS sd) % 4
def zN (sd : Int32) : Nat := 1 + rnV (rnS (rnS sd)) % 4
def zD (sd : Int32) : Nat := rnV (rnS (rnS (rnS sd))) % (zN sd + 1)
def z4 (sd : Int32) : Int32 := rnS (rnS (rnS (rnS sd)))
def z5 (sd : Int32) : Int32 := rsP (zN sd) (zW sd) (zH sd) (zD sd) (z4 sd)
def zO (sd : Int32) : Nat := rnV (z5 sd) % 4
def z6 (sd : Int32) : Int32 := hlS (zO sd) (rnS (z5 sd))
def z7 (sd : Int32) : Int32 := reS (z6 sd)
def zG (sd : Int32) : Nat := rnV (z7 sd) % 6
def z8 (sd : Int32) : Int32 := gsS (zG sd) (rnS (z7 sd))
def z9 (sd : Int32) : Int32 := prS (z8 sd)
def zT (sd : Int32) : List Int32 := [98, 111, 120] ++ numT (fun j => if j = 0 then zW sd else if j = 1 then zH sd else zN sd) 3 ++ [59] ++ plT (zN sd) (zW sd) (zH sd) (z4 sd) (zD sd) ++ hlT (zW sd) (zH sd) (rnS (z5 sd)) (zO sd) ++ reT (z6 sd) ++ gsT (rnS (z7 sd)) (zG sd) ++ prT (z8 sd)
def zK (sd : Int32) : Nat → Nat := (tGen (rnV (rnS (z8 sd)) % 3) (rnS (rnS (z8 sd)))).1
def zV (sd : Int32) : Nat → Int32 := (tGen (rnV (rnS (z8 sd)) % 3) (rnS (rnS (z8 sd)))).2.1
def zSz (sd : Int32) : Nat → Nat := fun i => match i with
  | 0 => zW sd
  | 1 => zH sd
  | 2 => zN sd
  | 3 => hlN (zO sd)
  | 4 => zG sd
  | _ => if rnV (z8 sd) % 2 = 0 then 1 else 0
def zI (sd : Int32) : Nat → Int32 := fun i => match i with
  | 0 => nI (reR (z6 sd))
  | 1 => nI (reL (z6 sd))
  | _ => 0
def zL (sd : Int32) : LG := (zSz sd, zI sd, fun _ => 0, fun p y => rsX (zN sd) (zW sd) (zH sd) (z4 sd) (zD sd) 0 p y, fun k j => hlE (zW sd) (zH sd) (rnS (z5 sd)) (zO sd) k j, fun k j => gsE (rnS (z7 sd)) k j, zK sd, zV sd)
theorem zL_5 (sd : Int32) : shZ (zL sd) 5 = if rnV (z8 sd) % 2 = 0 then 1 else 0 := rfl
theorem vT_if {x : Nat} {v w : Value} : (if x = 0 then v else w) = if (if x = 0 then 1 else 0) = 0 then w else v := by
  by_cases c9 : x = 0
  · rw [if_pos c9, if_pos c9, if_neg (by decide)]
  · rw [if_neg c9, if_neg c9, if_pos rfl]
/-- what of a show never changes: its cells among those of Z -/
def GI (cy : Nat → ClassId) (G : LG) (qP qH : Nat) (vT : Value) (rP rH : Nat → Nat) (rL : Nat → Nat → Nat) (rN : Nat → Nat) (Z : va_W) : Prop :=
  (qP, refsE (cy 7) (shZ G 2) rP) ∈ Z ∧ (∀ p, p < shZ G 2 → (rP p, refsE (cy 6) (shZ G 1) (rL p)) ∈ Z) ∧ (∀ p, p < shZ G 2 → ∀ y, y < shZ G 1 → strM cy (shT G p y) (rL p y) Z) ∧
  (qH, refsE (cy 4) (shZ G 3) rH) ∈ Z ∧ (∀ k, k < shZ G 3 → (rH k, (.inl (cy 0, 2, .inl (shH G k)) : va_E)) ∈ Z) ∧ (vT = if shZ G 5 = 0 then .null else .ref (rN 1)) ∧ (shZ G 5 ≠ 0 → ∀ i, shQ G i = true → (rN i, nodeE G rN i) ∈ Z)
theorem GI.mono {cy : Nat → ClassId} {G : LG} {qP qH : Nat} {vT : Value} {rP rH : Nat → Nat} {rL : Nat → Nat → Nat} {rN : Nat → Nat} {Z Z2 : va_W} (h : GI cy G qP qH vT rP rH rL rN Z) (hm : ∀ z ∈ Z, z ∈ Z2) : GI cy G qP qH vT rP rH rL rN Z2 := by
  obtain ⟨h1, h2, h3, h4, h5, h6, h7⟩ := h
  exact ⟨hm _ h1, fun p hp => hm _ (h2 p hp), fun p hp y hy => (h3 p hp y hy).mono hm, hm _ h4, fun k hk => hm _ (h5 k hk), h6, fun h0 i hi => hm _ (h7 h0 i hi)⟩
/-- the cells of a show in use, but what never changes -/
abbrev shE (cy : Nat → ClassId) (G : LG) (a qP qU qH qG qV : Nat) (vT : Value) (rG : Nat → Nat) (va : Nat → Int64) : va_W := [(a, showE G qP qU qH qG vT qV), (qU, .inl (cy 0, shZ G 2, .inl (shP G))), (qG, refsE (cy 8) (shZ G 4) rG), (qV, .inl (cy 2, 4, .inr (.inl va)))]
/-- the addresses that randomShow leaves: 0 qP, 1 qU, 2 qH, 3 qG, 4 qV; the term; rP, rH, rG, rL, rN; the rest of the world -/
abbrev SR : Type := St × (Nat → Int32) × (Nat → Nat) × Value × (Nat → Nat) × (Nat → Nat) × (Nat → Nat) × (Nat → Nat → Nat) × (Nat → Nat) × va_W
def mkSR (st : St) (B : Nat → Int32) (q0 q1 q2 q3 q4 : Nat) (vT : Value) (rP rH rG : Nat → Nat) (rL : Nat → Nat → Nat) (rN : Nat → Nat) (Z : va_W) : SR := (st, B, u6 q0 q1 q2 q3 q4 0, vT, rP, rH, rG, rL, rN, Z)
def SRok (PR : St → (Nat → Int32) → Prop) (cy : Nat → ClassId) (G : LG) (x : SR) : Prop := PR x.1 x.2.1 ∧ GI cy G (x.2.2.1 0) (x.2.2.1 2) x.2.2.2.1 x.2.2.2.2.1 x.2.2.2.2.2.1 x.2.2.2.2.2.2.2.1 x.2.2.2.2.2.2.2.2.1 x.2.2.2.2.2.2.2.2.2
abbrev SRw (cy : Nat → ClassId) (u : Nat → Nat) (qo qb : Nat) (e0 : Nat × va_E) (G : LG) (x : SR) (a : Nat) : va_W := ([e0] ++ shE cy G a (x.2.2.1 0) (x.2.2.1 1) (x.2.2.1 2) (x.2.2.1 3) (x.2.2.1 4) x.2.2.2.1 x.2.2.2.2.2.2.1 (fun _ => 0)) ++ (CWB cy u qo x.1 qb x.2.1 ++ (rl (shZ G 4) x.2.2.2.2.2.2.1 (fun i => guestE (shG G i)) ++ x.2.2.2.2.2.2.2.2.2))
/-- cells written otherwise that are the same -/
theorem refit_P {D : va_G} {cl : List vw_C} {X Y : va_W} {n h : Nat} {c : ClassId} {r : Nat → Nat} {f g : Nat → Nat → Option Nat} {A : Nat → Prop} {H : Heap} (hP : va_P D cl (X ++ (rl n r (fun q => .inl (c, h, .inr (.inr (.inr (.inr (f q)))))) ++ Y)) H) (hD : va_D A (X ++ (rl n r (fun q => .inl (c, h, .inr (.inr (.inr (.inr (f q)))))) ++ Y))) (hfg : ∀ q, q < n → ∀ j, j < h → f q j = g q j) : va_P D cl (X ++ (rl n r (fun q => .inl (c, h, .inr (.inr (.inr (.inr (g q)))))) ++ Y)) H ∧ va_D A (X ++ (rl n r (fun q => .inl (c, h, .inr (.inr (.inr (.inr (g q)))))) ++ Y)) := by
  have key : ∀ (k : Nat) (x : Nat × va_E), (X ++ (rl n r (fun q => .inl (c, h, .inr (.inr (.inr (.inr (g q)))))) ++ Y))[k]? = some x → ∃ y : Nat × va_E, (X ++ (rl n r (fun q => .inl (c, h, .inr (.inr (.inr (.inr (f q)))))) ++ Y))[k]? = some y ∧ y.1 = x.1 ∧ (∀ H : Heap, va_at D cl y H → va_at D cl x H) := by
    intro k x hk
    by_cases c1 : k < X.length
    · rw [List.getElem?_append_left c1] at hk ⊢
      exact ⟨x, hk, rfl, fun _ h => h⟩
    · rw [List.getElem?_append_right (by omega)] at hk ⊢
      by_cases c2 : k - X.length < n
      · rw [List.getElem?_append_left (by rw [rl_len]; exact c2), rl_at c2] at hk
        obtain rfl := Option.some.inj hk
        refine ⟨(r (k - X.length), .inl (c, h, .inr (.inr (.inr (.inr (f (k - X.length))))))), by rw [List.getElem?_append_left (by rw [rl_len]; exact c2), rl_at c2], rfl, fun H h9 => ?_⟩
        have h8 : H[r (k - X.length)]? = some (vp_cell c (h, .inr (.inr (.inr (.inr (f (k - X.length))))))) := h9
        show H[r (k - X.length)]? = some (vp_cell c (h, .inr (.inr (.inr (.inr (g (k - X.length)))))))
        rw [h8, refs_cell (fun i hi => hfg _ c2 i hi)]
      · rw [List.getElem?_append_right (by rw [rl_len]; omega), rl_len] at hk ⊢
        exact ⟨x, hk, rfl, fun _ h => h⟩
  refine ⟨fun k x hk => ?_, fun i j p q hi hj e => ?_, fun k q hk => ?_⟩
  · obtain ⟨y, h1, -, h3⟩ := key k x hk
    exact h3 H (hP k y h1)
  · obtain ⟨y, h1, h2, -⟩ := key i p hi
    obtain ⟨z, h3, h4, -⟩ := key j q hj
    exact hD.1 i j y z h1 h3 (by rw [h2, h4]; exact e)
  · obtain ⟨y, h1, h2, -⟩ := key k q hk
    rw [← h2]; exact hD.2 k y h1
section PMZ
variable {α : Type} {r a qP qU qH h0 g0 v qH9 qG2 : α} {C R L G G2 G3 G4 G6 LG : List α}
theorem pm_z1 : ([r, a, qP] ++ (C ++ (R ++ (([qU] ++ [qH, h0, g0, v]) ++ G)))).Perm ([r, a, qH] ++ (C ++ ([h0] ++ ((R ++ ([qP, qU, g0, v] ++ G)) ++ [])))) := by
  classical
  exact List.perm_iff_count.mpr (fun x => by simp only [List.count_append, List.count_cons, List.count_nil]; omega)
theorem pm_z2 : ([r, a, qH9] ++ (C ++ (L ++ ((R ++ ([qP, qU, g0, v] ++ G)) ++ G2)))).Perm ([r, a] ++ (C ++ (([qH9] ++ (L ++ (R ++ ([qP, qU, g0, v] ++ G)))) ++ G2))) := by
  classical
  exact List.perm_iff_count.mpr (fun x => by simp only [List.count_append, List.count_cons, List.count_nil]; omega)
theorem pm_z3 : ([r, a] ++ (C ++ (([qH9] ++ (L ++ (R ++ ([qP, qU, g0, v] ++ G)))) ++ G3))).Perm ([r, a, g0] ++ (C ++ (([qH9] ++ (L ++ (R ++ ([qP, qU, v] ++ G)))) ++ G3))) := by
  classical
  exact List.perm_iff_count.mpr (fun x => by simp only [List.count_append, List.count_cons, List.count_nil]; omega)
theorem pm_z4 : ([r, a, qG2] ++ (C ++ (LG ++ (([qH9] ++ (L ++ (R ++ ([qP, qU, v] ++ G)))) ++ G4)))).Perm ([r, a] ++ (C ++ ([qG2] ++ (LG ++ (([qH9] ++ (L ++ (R ++ ([qP, qU, v] ++ G)))) ++ G4))))) := by
  classical
  exact List.perm_iff_count.mpr (fun x => by simp only [List.count_append, List.count_cons, List.count_nil]; omega)
theorem pm_z5 : ([r, a] ++ (C ++ (([qG2] ++ (LG ++ (([qH9] ++ (L ++ (R ++ ([qP, qU, v] ++ G)))) ++ G4))) ++ G6))).Perm ([] ++ (R ++ ([r, a] ++ (C ++ (([qG2] ++ (LG ++ (([qH9] ++ (L ++ ([qP, qU, v] ++ G))) ++ G4))) ++ G6))))) := by
  classical
  exact List.perm_iff_count.mpr (fun x => by simp only [List.count_append, List.count_cons, List.count_nil]; omega)
theorem pm_z6 : ([] ++ (R ++ ([r, a] ++ (C ++ (([qG2] ++ (LG ++ (([qH9] ++ (L ++ ([qP, qU, v] ++ G))) ++ G4))) ++ G6))))).Perm (([r] ++ [a, qU, qG2, v]) ++ (C ++ (LG ++ ([qP, qH9] ++ (L ++ (R ++ (G ++ (G4 ++ G6)))))))) := by
  classical
  exact List.perm_iff_count.mpr (fun x => by simp only [List.count_append, List.count_cons, List.count_nil]; omega)
end PMZ
theorem zT_len1 (sd : Int32) : ([98, 111, 120] ++ numT (fun j => if j = 0 then zW sd else if j = 1 then zH sd else zN sd) 3 ++ [59] : List Int32).length ≤ 19 := by
  have := numT_len (fun j => if j = 0 then zW sd else if j = 1 then zH sd else zN sd) 3
  rw [List.length_append, List.length_append]
  show 3 + _ + 1 ≤ 19
  omega
theorem kd_L_randomShow : yL_randomShow.cls ≠ "java/lang/invoke/MethodHandle" ∧ yL_randomShow.cls ≠ "java/lang/invoke/VarHandle" ∧ (parseMethodDescriptor yL_randomShow.desc).map (fun d => d.parameters.length) = some 3 := by decide +kernel
set_option maxHeartbeats 1200000 in
set_option maxRecDepth 100000 in
theorem c_L_randomShow {l : Launch} {D : va_G} {cy : Nat → ClassId} {ad : Nat → Nat} (u : Nat → Nat) (qo qb r sz : Nat) (sd : Int32) (st : St) {B : Nat → Int32} (T0 : TxR [] (St.filled st) (St.bytes st) B) (PR : St → (Nat → Int32) → Prop) (hN : ∀ (f : Int32) (b B : Nat → Int32), TxR (zT sd) f b B → ∃ st2 B2, LTx (stW st f b) B (nI (zG sd)) st2 B2 ∧ PR st2 B2) :
    Met l yL_randomShow wsL_randomShow ({ frames := 100, cells := 4000, slots := 300000, locals := 4000 } : Room) (kP (EZ D cy ad) D [.ref qo, .ref qb, .ref r] ([(r, .inr (9, [.int sd]))] ++ CWB cy u qo st qb B) sz) (kQR D (fun (x : SR) (_ : Nat) => SRok PR cy (zL sd) x) (fun x a => SRw cy u qo qb (r, .inr (9, [.int (z9 sd)])) (zL sd) x a) (va_A ([(r, .inr (9, [.int sd]))] ++ CWB cy u qo st qb B) sz)) 4000 300000 (va_A ([(r, .inr (9, [.int sd]))] ++ CWB cy u qo st qb B) sz) := by
  refine kMet (y := yL_randomShow) (av := [.ref qo, .ref qb, .ref r]) (cc := cL_randomShow) (maxL := 10) (ret := (some (.object "PeepBoxLaw$Show"))) (own := RL) (Qc := fun A9 => (kQR D (fun (x : SR) (_ : Nat) => SRok PR cy (zL sd) x) (fun x a => SRw cy u qo qb (r, .inr (9, [.int (z9 sd)])) (zL sd) x a) A9)) (by decide) rfl rfl (Nat.le_of_ble_eq_true rfl) ?_
  intro p e s m args below meth c A hx hb hr hts hown hml hlocks hname hE hP hD hA hsz ls hl
  have hl : lv_has ls 10 [(0, .ref qo), (1, .ref qb), (2, .ref r)] := hl
  have hS : va_S A s.heap s.heap [] := va_S.rf
  obtain ⟨QQ, hQQ⟩ : ∃ Q9, Q9 = MQ below (kQR D (fun (x : SR) (_ : Nat) => SRok PR cy (zL sd) x) (fun x a => SRw cy u qo qb (r, .inr (9, [.int (z9 sd)])) (zL sd) x a) A) args s 4000 300000 A := ⟨_, rfl⟩
  rw [← hQQ]
  have C : RC p s m c args D cy ad A := ⟨hx, hb, hml, hown, hts, hE, hA⟩
  have eB : (CWB cy u qo st qb B : va_W) = CWB cy u qo (stW st (St.filled st) (St.bytes st)) qb B ++ [] := (List.append_nil _).symm
  rw [eB] at hP hD
  refine rs_start C T0 hP hD hS hl ?_
  intro w hh n a qP qU v0 rP rL f b B G H locs ls ew eh en T hrows hP hD hS hl
  obtain rfl : w = zW sd := ew
  obtain rfl : hh = zH sd := eh
  obtain rfl : n = zN sd := en
  have hw : 1 ≤ zW sd ∧ zW sd ≤ 6 := by unfold zW; omega
  have hh4 : 1 ≤ zH sd ∧ zH sd ≤ 4 := by unfold zH; omega
  have hn4 : zN sd ≤ 4 := by unfold zN; omega
  have hd4 : zD sd ≤ zN sd := by unfold zD; have := Nat.mod_lt (rnV (rnS (rnS (rnS sd)))) (show 0 < zN sd + 1 by omega); omega
  have l1 := zT_len1 sd
  have l2 := plT_len (n := zN sd) hw.2 hh4.2 (z4 sd) (zD sd)
  refine rs_planes (told := zD sd) (sd0 := z4 sd) C hw hh4.2 hn4 hd4 (Nat.le_trans l1 (by decide)) (by decide) (by decide) T hrows hP hD hS hl ?_
  clear T hrows hP hD hS hl
  intro f b B gr G H locs ls T hrows hP hD hS hl
  refine rs_holes (sd := z5 sd) (qh0 := v0 3) C hw hh4 hn4 ?_ (by decide) (by decide) T (hP.perm pm_z1) (hD.perm pm_z1) hS hl ?_
  · rw [List.length_append]; omega
  clear T hP hD hS hl
  intro N qH9 rH f b B G2 H locs ls eN T hP hD hS hl
  obtain rfl : N = zO sd := eN
  have l3 := hlT_len (zW sd) (zH sd) (rnS (z5 sd)) (zO sd)
  have hO : zO sd ≤ 3 := by unfold zO; omega
  refine rs_reach (sd := z6 sd) C ?_ (by decide) (by decide) T (hP.perm pm_z2) (hD.perm pm_z2) hS hl ?_
  · rw [List.length_append, List.length_append]; omega
  clear T hP hD hS hl
  intro f b B G3 H locs ls T hP hD hS hl
  have l4 := reT_len (z6 sd)
  refine rs_guests (sd := z7 sd) C ?_ (by decide) (by decide) T (hP.perm pm_z3) (hD.perm pm_z3) hS hl ?_
  · rw [List.length_append, List.length_append, List.length_append]; omega
  clear T hP hD hS hl
  intro NG qG2 rG f b B G4 H locs ls eNG T hP hD hS hl
  obtain rfl : NG = zG sd := eNG
  have l5 := gsT_len (rnS (z7 sd)) (zG sd)
  have hG5 : zG sd ≤ 5 := by unfold zG; omega
  refine rs_price (sd := z8 sd) C ?_ (by decide) (by decide) T (hP.perm pm_z4) (hD.perm pm_z4) hS hl ?_
  · rw [List.length_append, List.length_append, List.length_append, List.length_append]; omega
  clear T hP hD hS hl
  intro vT rN f b B G6 H locs ls evT hnd T hP hD hS hl
  have T : TxR (zT sd) f b B := T
  obtain ⟨st2, B2, hLT, hPR⟩ := hN f b B T
  refine rs_load C (by decide) (by decide) hLT hP hD hS hl ?_
  clear T hP hD hS hl
  intro H locs ls hP hD hS
  have hgr : ∀ q, q < zN sd → ∀ j, j < zH sd → gr q j = (fun q j => some ((gr q j).getD 0)) q j := fun q hq j hj => by
    obtain ⟨x, h1, -⟩ := hrows q hq j hj
    show gr q j = some ((gr q j).getD 0)
    rw [h1]; rfl
  obtain ⟨hP, hD⟩ := refit_P (hP.perm pm_z5) (hD.perm pm_z5) hgr
  have hP := hP.perm pm_z6
  have hD := hD.perm pm_z6
  obtain ⟨rL2, erL⟩ : ∃ z : Nat → Nat → Nat, z = fun q j => (gr q j).getD 0 := ⟨_, rfl⟩
  obtain ⟨Z0, eZ⟩ : ∃ z : va_W, z = [(qP, refsE (cy 7) (zN sd) rP), (qH9, refsE (cy 4) (hlN (zO sd)) rH)] ++ (rl (hlN (zO sd)) rH (fun k => .inl (cy 0, 2, .inl (hlE (zW sd) (zH sd) (rnS (z5 sd)) (zO sd) k))) ++ (rl (zN sd) rP (fun q => refsE (cy 6) (zH sd) (rL2 q)) ++ (G ++ (G4 ++ G6)))) := ⟨_, rfl⟩
  have hGI : GI cy (zL sd) qP qH9 vT rP rH rL2 rN Z0 := by
    rw [eZ]
    refine ⟨List.mem_append_left _ List.mem_cons_self, fun p hp => List.mem_append_right _ (List.mem_append_right _ (List.mem_append_left _ (List.mem_of_getElem? (rl_at hp)))), fun p hp y hy => ?_, List.mem_append_left _ (List.mem_cons_of_mem _ List.mem_cons_self), fun k hk => List.mem_append_right _ (List.mem_append_left _ (List.mem_of_getElem? (rl_at hk))), ?_, fun h0 i hi => ?_⟩
    · obtain ⟨x, h1, h2⟩ := hrows p hp y hy
      have e9 : rL2 p y = x := by rw [erL]; show (gr p y).getD 0 = x; rw [h1]; rfl
      rw [e9]
      exact h2.mono (fun z hz => List.mem_append_right _ (List.mem_append_right _ (List.mem_append_right _ (List.mem_append_left _ hz))))
    · rw [zL_5]
      exact evT.trans vT_if
    · have c9 : rnV (z8 sd) % 2 = 0 := by
        by_cases c9 : rnV (z8 sd) % 2 = 0
        · exact c9
        · exact absurd ((zL_5 sd).trans (if_neg c9)) h0
      exact List.mem_append_right _ (List.mem_append_right _ (List.mem_append_right _ (List.mem_append_right _ (List.mem_append_right _ (hnd c9 i (by rw [shQ_ndG] at hi; exact hi))))))
  have hP : va_P D vwCl (SRw cy u qo qb (r, .inr (9, [.int (z9 sd)])) (zL sd) (mkSR st2 B2 qP qU qH9 qG2 (v0 5) vT rP rH rG rL2 rN Z0) a) H := by rw [eZ, erL]; exact hP
  have hD : va_D A (SRw cy u qo qb (r, .inr (9, [.int (z9 sd)])) (zL sd) (mkSR st2 B2 qP qU qH9 qG2 (v0 5) vT rP rH rG rL2 rN Z0) a) := by rw [eZ, erL]; exact hD
  rw [hQQ]
  exact kr_R (r := a) (mkSR st2 B2 qP qU qH9 qG2 (v0 5) vT rP rH rG rL2 rN Z0) ⟨hPR, hGI⟩ hx hb hr (Or.inl ⟨_, rfl⟩) hlocks hP hD hS dL_randomShow_599 (by decide) (by decide)
