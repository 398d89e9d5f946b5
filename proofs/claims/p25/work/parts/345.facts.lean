/-! THE LAW: what the questions answer -/
def Rf.thr (rf : Rf) (x : Int32) : Rf := mkRf x (Rf.bufferLength rf) (Rf.textLength rf) (Rf.position rf) (Rf.error rf) (Rf.errorAt rf) (Rf.errorOffset rf) (Rf.undoDepth rf) (Rf.numberStart rf) (Rf.nesting rf) (Rf.seen rf) (Rf.toldPlanes rf) (Rf.buffer rf) (Rf.data rf) (Rf.draft rf) (Rf.aside rf) (Rf.h0 rf) (Rf.h1 rf) (Rf.h2 rf) (Rf.h3 rf) (Rf.h4 rf) (Rf.h5 rf) (Rf.h6 rf) (Rf.h7 rf) (Rf.facts rf) (Rf.stack rf)
theorem RAll.thr {st : St} {rf : Rf} (R : RAll st rf) (x : Int32) : RAll st (Rf.thr rf x) := R
theorem f_state {st : St} {rf : Rf} (R : RAll st rf) (a1 o : Int32) : Ans (X6_state (Sh.width (St.now st)) (Sh.height (St.now st)) (Sh.planes (St.now st)) (Sh.holes (St.now st)) (Sh.reach (St.now st)) (Sh.viewers (St.now st)) (Sh.lookLength (St.now st)) (Sh.time (St.now st)) (Sh.facts (St.now st)) a1) (X7_state o (Rf.data rf) a1) [(2, 1)] := by
  obtain ⟨⟨w, h, n, HN, sz, V, LL, rc, pull, hx, hy, e1, e2, e3, e4, e5, e6, e7, e8, N, Vw, P⟩, -⟩ := R
  simp only [e1, e2, e3, e4, e5, e6, e7, e8]
  exact m_state N a1 o
theorem f_stands {st : St} {rf : Rf} (R : RAll st rf) (a1 a2 a3 o : Int32) : Ans (X6_stands (Sh.width (St.now st)) (Sh.height (St.now st)) (Sh.planes (St.now st)) (Sh.cells (St.now st)) (Sh.pulls (St.now st)) a1 a2 a3) (X7_stands o (Rf.data rf) a1 a2 a3) [(1, 1)] := by
  obtain ⟨⟨w, h, n, HN, sz, V, LL, rc, pull, hx, hy, e1, e2, e3, e4, e5, e6, e7, e8, N, Vw, P⟩, -⟩ := R
  simp only [e1, e2, e3, e4, e5, e6, e7, e8]
  exact m_stands N a1 a2 a3 o
theorem f_plane {st : St} {rf : Rf} (R : RAll st rf) (a1 a2 o : Int32) : Ans (X6_plane (Sh.width (St.now st)) (Sh.height (St.now st)) (Sh.planes (St.now st)) (Sh.holes (St.now st)) (Sh.cells (St.now st)) (Sh.pulls (St.now st)) (Vw.seen (St.view st)) a1 a2) (X7_plane o (Rf.data rf) a1 a2) [(1, 1), (2, 2)] := by
  obtain ⟨⟨w, h, n, HN, sz, V, LL, rc, pull, hx, hy, e1, e2, e3, e4, e5, e6, e7, e8, N, Vw, P⟩, -⟩ := R
  simp only [e1, e2, e3, e4, e5, e6, e7, e8]
  exact m_plane N Vw a1 a2 o
theorem f_hole {st : St} {rf : Rf} (R : RAll st rf) (a1 a2 o : Int32) : Ans (X6_hole (Sh.holes (St.now st)) (Sh.holeX (St.now st)) (Sh.holeY (St.now st)) (Sh.lookers (St.now st)) (Vw.kinds (St.view st)) (Vw.depths (St.view st)) a1 a2) (X7_hole o (Rf.data rf) a1 a2) [(1, 1), (2, 2)] := by
  obtain ⟨⟨w, h, n, HN, sz, V, LL, rc, pull, hx, hy, e1, e2, e3, e4, e5, e6, e7, e8, N, Vw, P⟩, -⟩ := R
  simp only [e1, e2, e3, e4, e5, e6, e7, e8]
  exact m_hole N Vw a1 a2 o
theorem f_sees {st : St} {rf : Rf} (R : RAll st rf) (a1 a2 a3 o : Int32) : Ans (X6_sees (Sh.width (St.now st)) (Sh.height (St.now st)) (Sh.holes (St.now st)) (Vw.seen (St.view st)) a1 a2 a3) (X7_sees o (Rf.data rf) a1 a2 a3) [(1, 1)] := by
  obtain ⟨⟨w, h, n, HN, sz, V, LL, rc, pull, hx, hy, e1, e2, e3, e4, e5, e6, e7, e8, N, Vw, P⟩, -⟩ := R
  simp only [e1, e2, e3, e4, e5, e6, e7, e8]
  exact m_sees N Vw a1 a2 a3 o
theorem f_shown {st : St} {rf : Rf} (R : RAll st rf) (a1 a2 o : Int32) : Ans (X6_shown (Sh.holes (St.now st)) (Vw.counts (St.view st)) a1 a2) (X7_shown o (Rf.data rf) a1 a2) [(1, 1), (2, 2)] := by
  obtain ⟨⟨w, h, n, HN, sz, V, LL, rc, pull, hx, hy, e1, e2, e3, e4, e5, e6, e7, e8, N, Vw, P⟩, -⟩ := R
  simp only [e1, e2, e3, e4, e5, e6, e7, e8]
  exact m_shown N Vw a1 a2 o
theorem f_why {st : St} {rf : Rf} (R : RAll st rf) (a1 a2 a3 a4 o : Int32) : Ans (X6_why (Sh.width (St.now st)) (Sh.height (St.now st)) (Sh.planes (St.now st)) (Sh.holes (St.now st)) (Sh.cells (St.now st)) (Sh.pulls (St.now st)) (Sh.holeX (St.now st)) (Sh.holeY (St.now st)) (Vw.seen (St.view st)) a1 a2 a3 a4) (X7_why o (Rf.data rf) a1 a2 a3 a4) [(1, 1)] := by
  obtain ⟨⟨w, h, n, HN, sz, V, LL, rc, pull, hx, hy, e1, e2, e3, e4, e5, e6, e7, e8, N, Vw, P⟩, -⟩ := R
  simp only [e1, e2, e3, e4, e5, e6, e7, e8]
  exact m_why N Vw a1 a2 a3 a4 o
theorem f_viewer {st : St} {rf : Rf} (R : RAll st rf) (a1 a2 o : Int32) : Ans (X6_viewer (Sh.viewers (St.now st)) (Sh.facts (St.now st)) a1 a2) (X7_viewer o (Rf.data rf) a1 a2) [(1, 1), (2, 2)] := by
  obtain ⟨⟨w, h, n, HN, sz, V, LL, rc, pull, hx, hy, e1, e2, e3, e4, e5, e6, e7, e8, N, Vw, P⟩, -⟩ := R
  simp only [e1, e2, e3, e4, e5, e6, e7, e8]
  exact m_viewer N a1 a2 o
