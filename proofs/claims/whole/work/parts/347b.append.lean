/-! THE LAW: operation append -/
section OP
variable {p : Program} {l : Launch} {e : Env} {s : State} {m : MethodId} {below : List Frame} {meth : Method} {c : Code} {b L : Nat} {xs : Nat → Int32} {D : va_G} {cy : Nat → ClassId} {u v : Nat → Nat} {qo qx qout : Nat} {Q : State → Prop} {cells slots : Nat}
set_option maxHeartbeats 4000000 in
set_option maxRecDepth 100000 in
theorem op_append {st : St} {rf : Rf} {out : Nat → Int64} {H : Heap} {locs : List Loc} {ls : Array Slot} {i : Int32} {a1 a2 a3 a4 a5 : Int32} (C : LC p l s m c b L xs D cy) (R : RAll st rf) (hP : va_P D vwCl (LW cy u v qo qx qout st rf out) H) (hD : va_D (fun q => s.heap.size ≤ q) (LW cy u v qo qx qout st rf out)) (hS : va_S (fun q => s.heap.size ≤ q) s.heap H locs) (hl : lv_has ls 9 [(4, .int i), (3, .ref qout), (2, .ref qx), (1, .ref qo), (0, .ref b)]) (hi1 : vp_in (i + 1) L) (hi2 : vp_in (i + 2) L) (hi3 : vp_in (i + 3) L) (hi4 : vp_in (i + 4) L) (hi5 : vp_in (i + 5) L) (ha1 : xs (i + 1).toNatClampNeg = a1) (ha2 : xs (i + 2).toNatClampNeg = a2) (ha3 : xs (i + 3).toNatClampNeg = a3) (ha4 : xs (i + 4).toNatClampNeg = a4) (ha5 : xs (i + 5).toNatClampNeg = a5) (hc : cells + 1 ≤ room_1.cells) (hs : slots + 6 ≤ room_1.slots)
    (K : KE p l e s m below meth c b D cy u v qo qx qout Q i (cells + 1) (slots + 6)) : W p l e room_1 s m #[Value.ref b] below meth c H locs cells slots Q (F0 m 144 ls []) := by
  obtain ⟨hx, hb, hml, hown, hts, hX, hbl, hEL, hst⟩ := C
  have hE := hEL.1.1
  have hK := hE.1
  have hA : ∀ q, s.heap.size ≤ q → (fun q => s.heap.size ≤ q) q := fun _ h => h
  refine lv_aload_n hx hb dL_law_144 rfl (lv_at hl 3 rfl) ?_
  refine lv_aload_n hx hb dL_law_145 rfl (lv_at hl 4 rfl) ?_
  refine lv_iload hx hb dL_law_146 (lv_at hl 0 rfl) ?_
  refine lv_iconst (v := 1) hx hb dL_law_148 (by decide) ?_
  refine lv_iadd hx hb dL_law_149 ?_
  refine lw_ld hx hb hX hbl hS hi1 ha1 dL_law_150 ?_
  refine lv_aload_n hx hb dL_law_151 rfl (lv_at hl 4 rfl) ?_
  refine lv_iload hx hb dL_law_152 (lv_at hl 0 rfl) ?_
  refine lv_iconst (v := 2) hx hb dL_law_154 (by decide) ?_
  refine lv_iadd hx hb dL_law_155 ?_
  refine lw_ld hx hb hX hbl hS hi2 ha2 dL_law_156 ?_
  refine lv_aload_n hx hb dL_law_157 rfl (lv_at hl 4 rfl) ?_
  refine lv_iload hx hb dL_law_158 (lv_at hl 0 rfl) ?_
  refine lv_iconst (v := 3) hx hb dL_law_160 (by decide) ?_
  refine lv_iadd hx hb dL_law_161 ?_
  refine lw_ld hx hb hX hbl hS hi3 ha3 dL_law_162 ?_
  refine lv_aload_n hx hb dL_law_163 rfl (lv_at hl 4 rfl) ?_
  refine lv_iload hx hb dL_law_164 (lv_at hl 0 rfl) ?_
  refine lv_iconst (v := 4) hx hb dL_law_166 (by decide) ?_
  refine lv_iadd hx hb dL_law_167 ?_
  refine lw_ld hx hb hX hbl hS hi4 ha4 dL_law_168 ?_
  refine lv_aload_n hx hb dL_law_169 rfl (lv_at hl 4 rfl) ?_
  refine lv_iload hx hb dL_law_170 (lv_at hl 0 rfl) ?_
  refine lv_iconst (v := 5) hx hb dL_law_172 (by decide) ?_
  refine lv_iadd hx hb dL_law_173 ?_
  refine lw_ld hx hb hX hbl hS hi5 ha5 dL_law_174 ?_
  obtain ⟨v9, c1, c2, d2, d3, g1, g2, R1⟩ := f_append R a1 a2 a3 a4 a5 (Rf.thrown rf)
  refine ke_i (LW cy u v qo qx qout (mkSt 0 (St.sshow st) c1 (St.error st) (St.errorAt st) c2 (St.send st) (St.sat st) (St.number st) (St.planesTold st) (St.reachTold st) (St.lengthTold st) (St.priceTold st) (St.now st) (St.trial st) (St.view st) (St.tview st) (St.past st) (St.nextPast st) (St.undoable st)) rf out) (va_runV (As := [.int a1, .int a2, .int a3, .int a4, .int a5]) (rest := []) ⟨hx, hb, hml, hown, hts⟩ (c_X6_append qo (u 0) (u 13) H.size (.ref (u 14)) (.ref (u 26)) (.ref (u 38)) (.ref (u 44)) (.ref (u 50)) (.int (St.nextPast st)) (.int (St.undoable st)) (.ref (u 1)) (.int (St.error st)) (.int (St.errorAt st)) (.int (St.send st)) (.int (St.sat st)) (.int (St.number st)) (.int (St.planesTold st)) (.int (St.reachTold st)) (.int (St.lengthTold st)) (.int (St.priceTold st)) (St.filled st) (St.bytes st) a1 a2 a3 a4 a5 (v9, c1, c2) g1) (cwV 5 hts gL_law_X6_append rfl rfl rfl kd_X6_append ⟨Nat.le_of_ble_eq_true rfl, Nat.le_of_ble_eq_true rfl⟩) ⟨kP_blind (EN_ok D cy) D _ _ _, va_recv hK hP (ci := 6) (q0 := 0) rfl rfl, kStart (EN_ok D cy) hE hP hD hS hA [0, 1, 14] rfl rfl _⟩ rfl rfl hl.1 rfl (lv_room (Nat.le_of_ble_eq_true rfl)) dL_law_175 ⟨by omega, by omega⟩) hP hD hS hA [0, 1, 14] [2, 3, 4, 5, 6, 7, 8, 9, 10, 11, 12, 13, 15, 16, 17, 18, 19, 20, 21, 22, 23, 24, 25, 26, 27, 28, 29, 30, 31, 32, 33, 34, 35, 36, 37, 38, 39, 40, 41, 42, 43, 44, 45, 46, 47, 48, 49, 50, 51, 52, 53, 54, 55, 56, 57, 58, 59, 60, 61, 62, 63, 64, 65, 66, 67, 68, 69, 70, 71, 72, 73, 74, 75, 76, 77, 78, 79, 80, 81, 82, 83, 84, 85, 86, 87, 88, 89, 90, 91, 92, 93, 94, 95, 96, 97, 98, 99, 100, 101, 102, 103, 104, 105, 106, 107, 108, 109, 110, 111, 112, 113, 114, 115, 116, 117, 118, 119, 120, 121, 122, 123, 124, 125, 126, 127, 128, 129, 130, 131, 132, 133, 134, 135, 136, 137, 138, 139, 140, 141, 142, 143, 144, 145, 146, 147, 148, 149, 150, 151, 152, 153, 154, 155, 156, 157, 158, 159, 160, 161, 162, 163, 164] rfl rfl rfl 165 rfl (by decide +kernel) (fun H locs hP hD hS => ?_)
  refine lv_aload_n hx hb dL_law_178 rfl (lv_at hl 2 rfl) ?_
  refine lv_aload_n hx hb dL_law_179 rfl (lv_at hl 4 rfl) ?_
  refine lv_iload hx hb dL_law_180 (lv_at hl 0 rfl) ?_
  refine lv_iconst (v := 1) hx hb dL_law_182 (by decide) ?_
  refine lv_iadd hx hb dL_law_183 ?_
  refine lw_ld hx hb hX hbl hS hi1 ha1 dL_law_184 ?_
  refine lv_aload_n hx hb dL_law_185 rfl (lv_at hl 4 rfl) ?_
  refine lv_iload hx hb dL_law_186 (lv_at hl 0 rfl) ?_
  refine lv_iconst (v := 2) hx hb dL_law_188 (by decide) ?_
  refine lv_iadd hx hb dL_law_189 ?_
  refine lw_ld hx hb hX hbl hS hi2 ha2 dL_law_190 ?_
  refine lv_aload_n hx hb dL_law_191 rfl (lv_at hl 4 rfl) ?_
  refine lv_iload hx hb dL_law_192 (lv_at hl 0 rfl) ?_
  refine lv_iconst (v := 3) hx hb dL_law_194 (by decide) ?_
  refine lv_iadd hx hb dL_law_195 ?_
  refine lw_ld hx hb hX hbl hS hi3 ha3 dL_law_196 ?_
  refine lv_aload_n hx hb dL_law_197 rfl (lv_at hl 4 rfl) ?_
  refine lv_iload hx hb dL_law_198 (lv_at hl 0 rfl) ?_
  refine lv_iconst (v := 4) hx hb dL_law_200 (by decide) ?_
  refine lv_iadd hx hb dL_law_201 ?_
  refine lw_ld hx hb hX hbl hS hi4 ha4 dL_law_202 ?_
  refine lv_aload_n hx hb dL_law_203 rfl (lv_at hl 4 rfl) ?_
  refine lv_iload hx hb dL_law_204 (lv_at hl 0 rfl) ?_
  refine lv_iconst (v := 5) hx hb dL_law_206 (by decide) ?_
  refine lv_iadd hx hb dL_law_207 ?_
  refine lw_ld hx hb hX hbl hS hi5 ha5 dL_law_208 ?_
  refine ke_i (LW cy u v qo qx qout (mkSt 0 (St.sshow st) c1 (St.error st) (St.errorAt st) c2 (St.send st) (St.sat st) (St.number st) (St.planesTold st) (St.reachTold st) (St.lengthTold st) (St.priceTold st) (St.now st) (St.trial st) (St.view st) (St.tview st) (St.past st) (St.nextPast st) (St.undoable st)) (mkRf (nI 0) d2 (Rf.textLength rf) (Rf.position rf) (Rf.error rf) (Rf.errorAt rf) (Rf.errorOffset rf) (Rf.undoDepth rf) (Rf.numberStart rf) (Rf.nesting rf) (Rf.seen rf) (Rf.toldPlanes rf) d3 (Rf.data rf) (Rf.draft rf) (Rf.aside rf) (Rf.h0 rf) (Rf.h1 rf) (Rf.h2 rf) (Rf.h3 rf) (Rf.h4 rf) (Rf.h5 rf) (Rf.h6 rf) (Rf.h7 rf) (Rf.facts rf) (Rf.stack rf)) out) (va_runV (As := [.int a1, .int a2, .int a3, .int a4, .int a5]) (rest := [.int v9]) ⟨hx, hb, hml, hown, hts⟩ (c_X7_append qx (v 0) H.size (.int (Rf.textLength rf)) (.int (Rf.position rf)) (.int (Rf.error rf)) (.int (Rf.errorAt rf)) (.int (Rf.errorOffset rf)) (.ref (v 1)) (.ref (v 2)) (.ref (v 3)) (.ref (v 4)) (.int (Rf.undoDepth rf)) (.int (Rf.numberStart rf)) (.int (Rf.nesting rf)) (.int (Rf.seen rf)) (.int (Rf.toldPlanes rf)) (.ref (v 13)) (.ref (v 14)) (Rf.thrown rf) (Rf.bufferLength rf) (Rf.buffer rf) a1 a2 a3 a4 a5 (v9, (nI 0), d2, d3) g2) (cwV 5 hts gL_law_X7_append rfl rfl rfl kd_X7_append ⟨Nat.le_of_ble_eq_true rfl, Nat.le_of_ble_eq_true rfl⟩) ⟨kP_blind (EN_ok D cy) D _ _ _, va_recv hK hP (ci := 7) (q0 := 148) rfl rfl, kStart (EN_ok D cy) hE hP hD hS hA [148, 149] rfl rfl _⟩ rfl rfl hl.1 rfl (lv_room (Nat.le_of_ble_eq_true rfl)) dL_law_209 ⟨by omega, by omega⟩) hP hD hS hA [148, 149] [0, 1, 2, 3, 4, 5, 6, 7, 8, 9, 10, 11, 12, 13, 14, 15, 16, 17, 18, 19, 20, 21, 22, 23, 24, 25, 26, 27, 28, 29, 30, 31, 32, 33, 34, 35, 36, 37, 38, 39, 40, 41, 42, 43, 44, 45, 46, 47, 48, 49, 50, 51, 52, 53, 54, 55, 56, 57, 58, 59, 60, 61, 62, 63, 64, 65, 66, 67, 68, 69, 70, 71, 72, 73, 74, 75, 76, 77, 78, 79, 80, 81, 82, 83, 84, 85, 86, 87, 88, 89, 90, 91, 92, 93, 94, 95, 96, 97, 98, 99, 100, 101, 102, 103, 104, 105, 106, 107, 108, 109, 110, 111, 112, 113, 114, 115, 116, 117, 118, 119, 120, 121, 122, 123, 124, 125, 126, 127, 128, 129, 130, 131, 132, 133, 134, 135, 136, 137, 138, 139, 140, 141, 142, 143, 144, 145, 146, 147, 150, 151, 152, 153, 154, 155, 156, 157, 158, 159, 160, 161, 162, 163, 164] rfl rfl rfl 165 rfl (by decide +kernel) (fun H locs hP hD hS => ?_)
  refine lv_icmp_eq (tgt := 1413) hx hb dL_law_212 (by decide) (fun _ => ?_) (fun h => absurd rfl h)
  refine W.widen (k := cells + 1) (n := slots + 6) (by omega) (by omega) ?_
  exact K _ _ _ _ _ _ R1 hP hD hS hl
end OP
