/-! PHASE 2: load -/
section LD
variable {w h n HN sz V LL rc : Nat} {pull hx hy : Nat → Nat} {cells pulls holeX holeY codes : Nat → Int32} {ti : Int32} {lk fa d : Nat → Int32}
theorem m_load (N : ShowN w h n HN sz V LL rc pull hx hy cells pulls holeX holeY codes ti lk fa d) {f : Nat} {bytes buffer : Nat → Int32} (B : BufR f bytes buffer) {j np u : Nat} (hj : j = np) (hn : np < 8) (hu : u ≤ 8) (se sa sx sat snum k1 k2 k3 k4 : Int32) (sbw : Int32) (sbh : Int32) (sbp : Int32) (sbo : Int32) (sbr : Int32) (scells : Nat → Int32) (spulls : Nat → Int32) (sholeX : Nat → Int32) (sholeY : Nat → Int32) (sps : Int32) (scodes : Nat → Int32) (svi : Int32) (sll : Int32) (sti : Int32) (slk : Nat → Int32) (sfa : Nat → Int32) (seen counts kinds depths prices : Nat → Int32) (ebw : Int32) (ebh : Int32) (ebp : Int32) (ebo : Int32) (ebr : Int32) (ecells : Nat → Int32) (epulls : Nat → Int32) (eholeX : Nat → Int32) (eholeY : Nat → Int32) (eps : Int32) (ecodes : Nat → Int32) (evi : Int32) (ell : Int32) (eti : Int32) (elk : Nat → Int32) (efa : Nat → Int32) (o tl pos er ea eo ns ne sn to : Int32) (draft r0 r1 r2 r3 r4 r5 r6 r7 : Nat → Int32) (p1 : Int32) :
    (∃ b, X6_load j (nI np) (nI u) (nI f) se sa sx sat snum k1 k2 k3 k4 sbw sbh sbp sbo sbr scells spulls sholeX sholeY sps scodes svi sll sti slk sfa bytes (nI w) (nI h) (nI n) (nI HN) (nI rc) cells pulls holeX holeY (nI sz) codes (nI V) (nI LL) ti lk fa seen counts kinds depths prices ebw ebh ebp ebo ebr ecells epulls eholeX eholeY eps ecodes evi ell eti elk efa p1 = some (.inl 2) ∧ X7_load o (nI f) tl pos er ea eo (nI u) ns ne sn to buffer d draft r0 r1 r2 r3 r4 r5 r6 r7 p1 = some (b, nI 1, nI f, tl, pos, er, ea, eo, nI u, ns, ne, sn, to, d, draft, r0, r1, r2, r3, r4, r5, r6, r7)) ∨
    (∃ (v zr za zx zat znum z1 z2 z3 z4 : Int32) (zbw : Int32) (zbh : Int32) (zbp : Int32) (zbo : Int32) (zbr : Int32) (zcells : Nat → Int32) (zpulls : Nat → Int32) (zholeX : Nat → Int32) (zholeY : Nat → Int32) (zps : Int32) (zcodes : Nat → Int32) (zvi : Int32) (zll : Int32) (zti : Int32) (zlk : Nat → Int32) (zfa : Nat → Int32) (b1 b2 b3 b4 b5 b6 b7 : Int32) (d' : Nat → Int32), X6_load j (nI np) (nI u) (nI f) se sa sx sat snum k1 k2 k3 k4 sbw sbh sbp sbo sbr scells spulls sholeX sholeY sps scodes svi sll sti slk sfa bytes (nI w) (nI h) (nI n) (nI HN) (nI rc) cells pulls holeX holeY (nI sz) codes (nI V) (nI LL) ti lk fa seen counts kinds depths prices ebw ebh ebp ebo ebr ecells epulls eholeX eholeY eps ecodes evi ell eti elk efa p1 = some (.inr (v, nI np, nI u, nI 0, zr, za, zx, zat, znum, z1, z2, z3, z4, zbw, zbh, zbp, zbo, zbr, zcells, zpulls, zholeX, zholeY, zps, zcodes, zvi, zll, zti, zlk, zfa, nI w, nI h, nI n, nI HN, nI rc, cells, pulls, holeX, holeY, nI sz, codes, nI V, nI LL, ti, lk, fa, seen, counts, kinds, depths, prices, ebw, ebh, ebp, ebo, ebr, ecells, epulls, eholeX, eholeY, eps, ecodes, evi, ell, eti, elk, efa)) ∧
      X7_load o (nI f) tl pos er ea eo (nI u) ns ne sn to buffer d draft r0 r1 r2 r3 r4 r5 r6 r7 p1 = some (v, nI 0, nI 0, b1, b2, b3, za, za, nI u, b4, b5, b6, b7, d, d', r0, r1, r2, r3, r4, r5, r6, r7)) ∨
    ∃ (v zr za zx zat znum z1 z2 z3 z4 : Int32) (zbw : Int32) (zbh : Int32) (zbp : Int32) (zbo : Int32) (zbr : Int32) (zcells : Nat → Int32) (zpulls : Nat → Int32) (zholeX : Nat → Int32) (zholeY : Nat → Int32) (zps : Int32) (zcodes : Nat → Int32) (zvi : Int32) (zll : Int32) (zti : Int32) (zlk : Nat → Int32) (zfa : Nat → Int32) (nbw : Int32) (nbh : Int32) (nbp : Int32) (nbo : Int32) (nbr : Int32) (ncells : Nat → Int32) (npulls : Nat → Int32) (nholeX : Nat → Int32) (nholeY : Nat → Int32) (nps : Int32) (ncodes : Nat → Int32) (nvi : Int32) (nll : Int32) (nti : Int32) (nlk : Nat → Int32) (nfa : Nat → Int32) (s1 c1 y1 p1' w1 : Nat → Int32) (b1 b2 b3 b4 b5 b6 b7 : Int32) (d1 d' q0 q1 q2 q3 q4 q5 q6 q7 : Nat → Int32), X6_load j (nI np) (nI u) (nI f) se sa sx sat snum k1 k2 k3 k4 sbw sbh sbp sbo sbr scells spulls sholeX sholeY sps scodes svi sll sti slk sfa bytes (nI w) (nI h) (nI n) (nI HN) (nI rc) cells pulls holeX holeY (nI sz) codes (nI V) (nI LL) ti lk fa seen counts kinds depths prices ebw ebh ebp ebo ebr ecells epulls eholeX eholeY eps ecodes evi ell eti elk efa p1 = some (.inr (v, nI ((np + 1) % 8), nI (min (u + 1) 8), nI 0, zr, za, zx, zat, znum, z1, z2, z3, z4, zbw, zbh, zbp, zbo, zbr, zcells, zpulls, zholeX, zholeY, zps, zcodes, zvi, zll, zti, zlk, zfa, nbw, nbh, nbp, nbo, nbr, ncells, npulls, nholeX, nholeY, nps, ncodes, nvi, nll, nti, nlk, nfa, s1, c1, y1, w1, p1', nI w, nI h, nI n, nI HN, nI rc, va_cpy cells ecells 0 0 480, va_cpy pulls epulls 0 0 5, va_cpy holeX eholeX 0 0 4, va_cpy holeY eholeY 0 0 4, nI sz, va_cpy codes ecodes 0 0 sz, nI V, nI LL, ti, va_cpy lk elk 0 0 4, va_cpy fa efa 0 0 140)) ∧
      X7_load o (nI f) tl pos er ea eo (nI u) ns ne sn to buffer d draft r0 r1 r2 r3 r4 r5 r6 r7 p1 = some (v, nI 0, nI 0, b1, b2, b3, za, za, nI (min (u + 1) 8), b4, b5, b6, b7, d1, d', q0, q1, q2, q3, q4, q5, q6, q7) ∧ NowR nbw nbh nbp nbo nbr ncells npulls nholeX nholeY nps ncodes nvi nll nti nlk nfa s1 c1 y1 w1 p1' d1 ∧ ShowR (nI w) (nI h) (nI n) (nI HN) (nI rc) (va_cpy cells ecells 0 0 480) (va_cpy pulls epulls 0 0 5) (va_cpy holeX eholeX 0 0 4) (va_cpy holeY eholeY 0 0 4) (nI sz) (va_cpy codes ecodes 0 0 sz) (nI V) (nI LL) ti (va_cpy lk elk 0 0 4) (va_cpy fa efa 0 0 140) d ∧ ∀ k, k < min (u + 1) 8 → ∀ j, j < 2243 → hsel q0 q1 q2 q3 q4 q5 q6 q7 k j = (if k + 1 = min (u + 1) 8 then d j else hsel r0 r1 r2 r3 r4 r5 r6 r7 (if u = 8 then k + 1 else k) j) := by
  have hf := B.1
  have hn0 : ¬ nI 1 = 0 := by decide +kernel
  have hth : ∀ q : Option Int32, X7_in p1 0 (nI f) = some 0 → X7_load o (nI f) tl pos er ea eo (nI u) ns ne sn to buffer d draft r0 r1 r2 r3 r4 r5 r6 r7 p1 = some (0, nI 1, nI f, tl, pos, er, ea, eo, nI u, ns, ne, sn, to, d, draft, r0, r1, r2, r3, r4, r5, r6, r7) := fun _ hin => by
    unfold X7_load
    rw [q_b1 hin, if_pos (show (0 : Int32) = 0 from rfl)]
    unfold X7_load_J23
    rw [q_b2 (show X7_fails 0 1 1 = some (1, 1) from rfl), if_neg (show ¬ (1 : Int32) = 0 from hn0)]
    rfl
  rcases q_rng p1 0 f (by omega) (by omega) with c | ⟨c, c2⟩ | ⟨E, -, hE, rfl⟩
  · refine Or.inl ⟨0, ?_, hth none ?_⟩
    · unfold X6_load
      rw [if_pos (show p1 < 0 from c)]
      rfl
    · unfold X7_in
      rw [if_pos (show p1 < 0 from c)]
  · refine Or.inl ⟨0, ?_, hth none ?_⟩
    · unfold X6_load
      rw [if_neg (show ¬ p1 < 0 from c), if_neg (show ¬ p1 ≤ nI f from fun q => by rw [Int32.le_iff_toInt_le] at q; rw [Int32.lt_iff_toInt_lt] at c2; omega)]
      rfl
    · unfold X7_in
      rw [if_neg (show ¬ p1 < 0 from c), if_pos c2]
  · have T := B.txt hE
    obtain ⟨hr1, hr2⟩ := q_remN hj hn hu ebw ebh ebp ebo ebr ecells epulls eholeX eholeY eps ecodes evi ell eti elk efa N
    obtain ⟨q0, q1, q2, q3, q4, q5, q6, q7, hm, hq⟩ := r_remember d r0 r1 r2 r3 r4 r5 r6 r7 hu
    have h0 : ¬ nI E < 0 := nI_nlt (b := 0) (Nat.zero_le _) (by omega)
    have hin : X7_in (nI E) 0 (nI f) = some 1 := by
      unfold X7_in
      rw [if_neg h0, if_neg (nI_nlt hE (by omega))]
    have hR : X7_load o (nI f) tl pos er ea eo (nI u) ns ne sn to buffer d draft r0 r1 r2 r3 r4 r5 r6 r7 (nI E) = X7_load_J23 (nI f) tl pos er ea eo (nI u) ns ne sn to buffer d draft r0 r1 r2 r3 r4 r5 r6 r7 (nI E) 0 0 := by
      unfold X7_load
      rw [q_b1 hin, if_neg (show ¬ (1 : Int32) = 0 from hn0)]
    rw [hR]
    unfold X6_load
    rw [if_neg h0, if_pos (nI_le hE (by omega))]
    obtain ⟨w', h', n', pulls', lk', L⟩ := t_read (data := d) (r0 := r0) (r1 := r1) (r2 := r2) (r3 := r3) (r4 := r4) (r5 := r5) (r6 := r6) (r7 := r7) T hE hf se sa sx sat snum k1 k2 k3 k4 ns eo (nI u) (nI f) tl pos er ea ne sn to sbw sbh sbp sbo sbr scells spulls sps scodes svi sll sti slk draft sholeX sholeY sfa
    rcases L with ⟨HN', rc', sz', V', LL', hx', hy', cells', holeX', holeY', codes', fa', d', a1, a2, a3, a4, a5, a6, b1, b2, b3, b4, b5, g1, g2, g3, M⟩ | ⟨k, of, a1, a2, a3, a4, a5, a6, a7, a8, a9, a10, a11, a12, a13, a14, a15, a16, a17, a18, a19, a20, a21, a22, a23, a24, a25, b1, b2, b3, b4, b5, b6, d', g1, g2, g3, g4⟩
    · have M0 := M.show g1
      obtain ⟨hc1, hc2⟩ := q_showCopy (nI w) (nI h) (nI n) (nI HN) (nI rc) cells pulls holeX holeY (nI sz) codes (nI V) (nI LL) ti lk fa M0.toR
      obtain ⟨W, H, NN, HH, SZ, VV, LLL, RC, pul, hX, hY, e1, e2, e3, e4, e5, e6, e7, e8, M1⟩ := hc2.row (d' := cpN d' d 2243) (fun j hj => if_pos hj)
      obtain ⟨s1, c1, y1, w1, p1', u1, u2, u3⟩ := q_update M1.1.2.2.1 M1.1.1 M1.1.2.1 seen counts kinds depths prices
      rw [q_b27 g2, if_neg hn0, q_b18 hr1, q_b16 hc1, e1, e2, e3, e4, q_b5 u1, g3]
      unfold X7_load_J190
      rw [q_b9 hm, q_b1 (show X7_copy 2243 2243 d' d 2243 = some (cpN d' d 2243) from r_cp ..), q_ld (i := (7 : Int32)) _ 7 _ rfl (by omega) (by omega), show cpN d' d 2243 7 = nI V' from (if_pos (by omega)).trans M.2.2.2.1.2.2.2]
      exact Or.inr (Or.inr ⟨_, _, _, _, _, _, _, _, _, _, _, _, _, _, _, _, _, _, _, _, _, _, _, _, _, _, _, _, _, _, _, _, _, _, _, _, _, _, _, _, _, _, _, _, _, _, _, _, _, _, _, _, _, _, _, _, _, _, _, _, _, _, _, _, rfl, rfl, ⟨W, H, NN, HH, SZ, VV, LLL, RC, pul, hX, hY, rfl, rfl, rfl, rfl, e5, e6, e7, e8, M1, u2, PCa.new M1.1.1.2.2.2.1 u3⟩, hr2, hq⟩)
    · rw [q_b27 g3, if_pos (show nI 0 = 0 from rfl), g4]
      exact Or.inr (Or.inl ⟨_, _, _, _, _, _, _, _, _, _, _, _, _, _, _, _, _, _, _, _, _, _, _, _, _, _, _, _, _, _, _, _, _, _, rfl, rfl⟩)
end LD
