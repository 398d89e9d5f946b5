/-! THE LAW: its world -/
def Rf : Type := Int32 × Int32 × Int32 × Int32 × Int32 × Int32 × Int32 × Int32 × Int32 × Int32 × Int32 × Int32 × (Nat → Int32) × (Nat → Int32) × (Nat → Int32) × (Nat → Int32) × (Nat → Int32) × (Nat → Int32) × (Nat → Int32) × (Nat → Int32) × (Nat → Int32) × (Nat → Int32) × (Nat → Int32) × (Nat → Int32) × (Nat → Int32) × (Nat → Int64)
def Rf.thrown (x : Rf) : Int32 := x.1
def Rf.bufferLength (x : Rf) : Int32 := x.2.1
def Rf.textLength (x : Rf) : Int32 := x.2.2.1
def Rf.position (x : Rf) : Int32 := x.2.2.2.1
def Rf.error (x : Rf) : Int32 := x.2.2.2.2.1
def Rf.errorAt (x : Rf) : Int32 := x.2.2.2.2.2.1
def Rf.errorOffset (x : Rf) : Int32 := x.2.2.2.2.2.2.1
def Rf.undoDepth (x : Rf) : Int32 := x.2.2.2.2.2.2.2.1
def Rf.numberStart (x : Rf) : Int32 := x.2.2.2.2.2.2.2.2.1
def Rf.nesting (x : Rf) : Int32 := x.2.2.2.2.2.2.2.2.2.1
def Rf.seen (x : Rf) : Int32 := x.2.2.2.2.2.2.2.2.2.2.1
def Rf.toldPlanes (x : Rf) : Int32 := x.2.2.2.2.2.2.2.2.2.2.2.1
def Rf.buffer (x : Rf) : Nat → Int32 := x.2.2.2.2.2.2.2.2.2.2.2.2.1
def Rf.data (x : Rf) : Nat → Int32 := x.2.2.2.2.2.2.2.2.2.2.2.2.2.1
def Rf.draft (x : Rf) : Nat → Int32 := x.2.2.2.2.2.2.2.2.2.2.2.2.2.2.1
def Rf.aside (x : Rf) : Nat → Int32 := x.2.2.2.2.2.2.2.2.2.2.2.2.2.2.2.1
def Rf.h0 (x : Rf) : Nat → Int32 := x.2.2.2.2.2.2.2.2.2.2.2.2.2.2.2.2.1
def Rf.h1 (x : Rf) : Nat → Int32 := x.2.2.2.2.2.2.2.2.2.2.2.2.2.2.2.2.2.1
def Rf.h2 (x : Rf) : Nat → Int32 := x.2.2.2.2.2.2.2.2.2.2.2.2.2.2.2.2.2.2.1
def Rf.h3 (x : Rf) : Nat → Int32 := x.2.2.2.2.2.2.2.2.2.2.2.2.2.2.2.2.2.2.2.1
def Rf.h4 (x : Rf) : Nat → Int32 := x.2.2.2.2.2.2.2.2.2.2.2.2.2.2.2.2.2.2.2.2.1
def Rf.h5 (x : Rf) : Nat → Int32 := x.2.2.2.2.2.2.2.2.2.2.2.2.2.2.2.2.2.2.2.2.2.1
def Rf.h6 (x : Rf) : Nat → Int32 := x.2.2.2.2.2.2.2.2.2.2.2.2.2.2.2.2.2.2.2.2.2.2.1
def Rf.h7 (x : Rf) : Nat → Int32 := x.2.2.2.2.2.2.2.2.2.2.2.2.2.2.2.2.2.2.2.2.2.2.2.1
def Rf.facts (x : Rf) : Nat → Int32 := x.2.2.2.2.2.2.2.2.2.2.2.2.2.2.2.2.2.2.2.2.2.2.2.2.1
def Rf.stack (x : Rf) : Nat → Int64 := x.2.2.2.2.2.2.2.2.2.2.2.2.2.2.2.2.2.2.2.2.2.2.2.2.2
def mkRf (a0 : Int32) (a1 : Int32) (a2 : Int32) (a3 : Int32) (a4 : Int32) (a5 : Int32) (a6 : Int32) (a7 : Int32) (a8 : Int32) (a9 : Int32) (a10 : Int32) (a11 : Int32) (a12 : Nat → Int32) (a13 : Nat → Int32) (a14 : Nat → Int32) (a15 : Nat → Int32) (a16 : Nat → Int32) (a17 : Nat → Int32) (a18 : Nat → Int32) (a19 : Nat → Int32) (a20 : Nat → Int32) (a21 : Nat → Int32) (a22 : Nat → Int32) (a23 : Nat → Int32) (a24 : Nat → Int32) (a25 : Nat → Int64) : Rf := (a0, a1, a2, a3, a4, a5, a6, a7, a8, a9, a10, a11, a12, a13, a14, a15, a16, a17, a18, a19, a20, a21, a22, a23, a24, a25)
/-- class and reference stand alike -/
def RAll (st : St) (rf : Rf) : Prop :=
  NowR (Sh.width (St.now st)) (Sh.height (St.now st)) (Sh.planes (St.now st)) (Sh.holes (St.now st)) (Sh.reach (St.now st)) (Sh.cells (St.now st)) (Sh.pulls (St.now st)) (Sh.holeX (St.now st)) (Sh.holeY (St.now st)) (Sh.size (St.now st)) (Sh.codes (St.now st)) (Sh.viewers (St.now st)) (Sh.lookLength (St.now st)) (Sh.time (St.now st)) (Sh.lookers (St.now st)) (Sh.facts (St.now st)) (Vw.seen (St.view st)) (Vw.counts (St.view st)) (Vw.kinds (St.view st)) (Vw.depths (St.view st)) (Vw.prices (St.view st)) (Rf.data rf) ∧ (∃ np u : Nat, St.nextPast st = nI np ∧ St.undoable st = nI u ∧ Rf.undoDepth rf = nI u ∧ Ring np u (fun i => Sh.width (St.past st i)) (fun i => Sh.height (St.past st i)) (fun i => Sh.planes (St.past st i)) (fun i => Sh.holes (St.past st i)) (fun i => Sh.reach (St.past st i)) (fun i => Sh.cells (St.past st i)) (fun i => Sh.pulls (St.past st i)) (fun i => Sh.holeX (St.past st i)) (fun i => Sh.holeY (St.past st i)) (fun i => Sh.size (St.past st i)) (fun i => Sh.codes (St.past st i)) (fun i => Sh.viewers (St.past st i)) (fun i => Sh.lookLength (St.past st i)) (fun i => Sh.time (St.past st i)) (fun i => Sh.lookers (St.past st i)) (fun i => Sh.facts (St.past st i)) (Rf.h0 rf) (Rf.h1 rf) (Rf.h2 rf) (Rf.h3 rf) (Rf.h4 rf) (Rf.h5 rf) (Rf.h6 rf) (Rf.h7 rf)) ∧ (∃ f : Nat, St.filled st = nI f ∧ Rf.bufferLength rf = nI f ∧ BufR f (St.bytes st) (Rf.buffer rf)) ∧ St.errorAt st = Rf.errorOffset rf
def sh0 : Sh := mkSh 0 1 1 1 0 9 (fun _ => 0) (fun _ => 0) (fun _ => 0) (fun _ => 0) 0 (fun _ => 0) (fun _ => 0) 0 3 0 (fun _ => 0) (fun _ => 0)
def vw0 : Vw := mkVw 0 (fun _ => 0) (fun _ => 0) (fun _ => 0) (fun _ => 0) (fun _ => 0)
def St0 (r28 : Int32 × Int32 × Int32 × Int32 × Int32 × (Nat → Int32) × (Nat → Int32) × Int32 × (Nat → Int32) × Int32 × Int32 × Int32 × (Nat → Int32)) (r30 : Int32 × (Nat → Int32) × (Nat → Int32)) (r32 : (Nat → Int32) × (Nat → Int32) × (Nat → Int32) × (Nat → Int32) × (Nat → Int32)) : St := mkSt 0 sh0 0 0 (-1) (fun _ => 0) 0 0 0 0 0 0 0 (mkSh 0 r28.1 r28.2.1 r28.2.2.1 r30.1 r28.2.2.2.2.1 r28.2.2.2.2.2.1 r28.2.2.2.2.2.2.1 r30.2.1 r30.2.2 r28.2.2.2.2.2.2.2.1 r28.2.2.2.2.2.2.2.2.1 (fun _ => 0) r28.2.2.2.2.2.2.2.2.2.1 r28.2.2.2.2.2.2.2.2.2.2.1 r28.2.2.2.2.2.2.2.2.2.2.2.1 r28.2.2.2.2.2.2.2.2.2.2.2.2 (fun _ => 0)) sh0 (mkVw 0 r32.1 r32.2.1 r32.2.2.1 r32.2.2.2.1 r32.2.2.2.2) vw0 (fun _ => sh0) 0 0
def Rf0 (r9 : Nat → Int32) : Rf := mkRf 0 0 0 0 0 0 (-1) 0 0 0 0 0 (fun _ => 0) (upd r9 3 (1 : Int32)) (fun _ => 0) (fun _ => 0) (fun _ => 0) (fun _ => 0) (fun _ => 0) (fun _ => 0) (fun _ => 0) (fun _ => 0) (fun _ => 0) (fun _ => 0) (fun _ => 0) (fun _ => 0)
theorem r_start : ∃ r28 r30 r32 r9, X4_begin (1 : Int32) (1 : Int32) (1 : Int32) (0 : Int32) (9 : Int32) (fun _ => 0) (fun _ => 0) (0 : Int32) (fun _ => 0) (0 : Int32) (3 : Int32) (0 : Int32) (fun _ => 0) (4 : Int32) (3 : Int32) (2 : Int32) = some r28 ∧ X0_addHole r28.2.2.2.1 (fun _ => 0) (fun _ => 0) (0 : Int32) (0 : Int32) = some r30 ∧
    X5_update (fun _ => 0) (fun _ => 0) (fun _ => 0) (fun _ => 0) (fun _ => 0) r28.1 r28.2.1 r28.2.2.1 r30.1 r28.2.2.2.2.2.1 r28.2.2.2.2.2.2.1 r30.2.1 r30.2.2 = some r32 ∧ X7_layBox 2243 (fun _ => 0) (4 : Int32) (3 : Int32) (2 : Int32) = some r9 ∧ RAll (St0 r28 r30 r32) (Rf0 r9) := by
  obtain ⟨c, pl, lk, c1, c2, c3, c4⟩ := q_begin (w := 4) (h := 3) (n := 2) (by omega) (by omega) (by omega) (by omega) 1 1 1 0 9 (fun _ => 0) (fun _ => 0) 0 (fun _ => 0) 0 3 0 (fun _ => 0)
  obtain ⟨d, l1, l2⟩ := r_layBox (w := 4) (h := 3) (n := 2) (by omega) (by omega) (fun _ => 0)
  have N := c2.draft (by omega) (by omega) (by omega) (by omega) (by omega) (by omega) (pc := fun _ => 0) (fun _ => 0) (fun _ => 0) (fun _ => 0) (fun _ => 0) (fun _ => 0) c3 c4 l2
  have M := (N.hole (x := 0) (y := 0) (by omega) (by omega) (by omega)).show (by omega)
  have hd : upd (upd (upd d (495 + 2 * 0) (nI 0)) (495 + 2 * 0 + 1) (nI 0)) 3 (nI (0 + 1)) = upd d 3 (1 : Int32) := by
    rw [show 495 + 2 * 0 + 1 = 496 from rfl, show 495 + 2 * 0 = 495 from rfl, upd_id d (l2.2.2.2.2.2.2.2.1 495 (by omega) (by omega)), upd_id d (l2.2.2.2.2.2.2.2.1 496 (by omega) (by omega))]
    rfl
  rw [hd] at M
  obtain ⟨s1, k1, y1, w1, p1, u1, u2, u3⟩ := q_update M.1.2.2.1 M.1.1 M.1.2.1 (fun _ => 0) (fun _ => 0) (fun _ => 0) (fun _ => 0) (fun _ => 0)
  have ha : X0_addHole (nI 0) (fun _ => 0) (fun _ => 0) 0 0 = some (nI (0 + 1), upd (fun _ => 0) 0 (nI 0), upd (fun _ => 0) 0 (nI 0)) := by
    unfold X0_addHole
    simp (disch := omega) only [s_lit, s_b0, s_b1, s_b2, s_b3, s_b4, s_b5, s_b6, s_x0, s_x0l, s_t1, s_nm, s_ckT, s_ld, s_st, s_clamp, nI_add, pk_mul, s_sub, s_nad, s_div, s_mod, s_rem2, s_le_t, s_le_f, s_lt_t, s_lt_f, s_eq_t, s_eq_f, s_n1, s_n2, s_n3, s_n4, s_n5, s_n6, s_n7, s_n8, s_n9, s_n10, s_n11, s_n12, s_us, s_un, s_uLs, s_uLn, ↓reduceIte, not_false_eq_true, not_true_eq_false, true_and, and_true, and_self, or_false, false_or, or_self, true_or, or_true, false_and, and_false, Int32.neg_neg, Nat.add_zero, Nat.zero_add, Nat.reduceSub, Nat.reduceAdd, Nat.reduceMul, Nat.reduceLeDiff]
  refine ⟨_, _, _, _, c1, ha, u1, l1, ⟨4, 3, 2, 0 + 1, 3, 0, 3, 9, _, _, _, rfl, rfl, rfl, rfl, rfl, rfl, rfl, rfl, M, u2, PCa.new M.1.1.2.2.2.1 u3⟩, ⟨0, 0, rfl, rfl, rfl, by omega, by omega, fun k hk => absurd hk (Nat.not_lt_zero _)⟩, ⟨0, rfl, rfl, by omega, fun j hj => absurd hj (Nat.not_lt_zero _)⟩, rfl⟩
