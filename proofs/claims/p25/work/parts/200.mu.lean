/-! Random, Guest (mu.py) -/
/-- EN, and a guest that is only read -/
def EC (D : va_G) (cy : Nat → ClassId) (x : Nat) (f : Nat → Int32) (A : Nat → Prop) (U : State) (H : Heap) : Prop := EN D cy A U H ∧ ro D x (guestE f) A H
theorem EC_ok (D : va_G) (cy : Nat → ClassId) (x : Nat) (f : Nat → Int32) : EOK (EC D cy x f) := fun A B s U H0 H h hq hAB hW => ⟨EN_ok D cy A B s U H0 H h.1 hq hAB hW, h.2.go hq hAB⟩
/-- the generator: its next seed, and the number that it draws from -/
def rnS (s : Int32) : Int32 := (1103515245 : Int32) * s + (12345 : Int32)
def rnV (s : Int32) : Nat := (rnS s).toUInt32.toNat / 65536
theorem rnV_lt (s : Int32) : rnV s < 65536 := by
  have := (rnS s).toUInt32.toNat_lt
  unfold rnV; omega
theorem rn_shr (x : Int32) : (x.toUInt32 >>> ((16 : Int32).toUInt32 &&& Int32.toUInt32 31)).toInt32 = nI (x.toUInt32.toNat / 65536) := by
  have h16 : ((16 : Int32).toUInt32 &&& Int32.toUInt32 31) = 16 := by decide
  rw [h16]
  have h := x.toUInt32.toNat_lt
  apply Int32.toBitVec_inj.mp
  apply BitVec.eq_of_toNat_eq
  have e : x.toUInt32.toNat = x.toBitVec.toNat := rfl
  simp [nI, Nat.shiftRight_eq_div_pow]
  omega
theorem kd_X9_init : yX9_init.cls ≠ "java/lang/invoke/MethodHandle" ∧ yX9_init.cls ≠ "java/lang/invoke/VarHandle" ∧ (parseMethodDescriptor yX9_init.desc).map (fun d => d.parameters.length) = some 1 := by decide +kernel
set_option maxHeartbeats 4000000 in
set_option maxRecDepth 100000 in
theorem c_X9_init {l : Launch} {D : va_G} {cy : Nat → ClassId} (r sz : Nat) (x : Int32) : Met l yX9_init wsX9_init ({ frames := 1, cells := 0, slots := 0, locals := 20 } : Room) (kP (EN D cy) D [.ref r, .int x] ([(r, .inr (9, [.int (0 : Int32)]))]) sz) (kQv D [(r, .inr (9, [.int x]))] (va_A ([(r, .inr (9, [.int (0 : Int32)]))]) sz)) 0 0 (va_A ([(r, .inr (9, [.int (0 : Int32)]))]) sz) := by
  refine kMet (y := yX9_init) (av := [.ref r, .int x]) (cc := cX9_init) (maxL := 2) (ret := none) (own := RX9) (Qc := fun A9 => (kQv D [(r, .inr (9, [.int x]))] A9)) (by decide) rfl rfl (Nat.le_of_ble_eq_true rfl) ?_
  intro p e s m args below meth c A hx hb hr hts hown hml hlocks hname hE hP hD hA hsz ls hl
  have hK := hE.1
  have hl : lv_has ls 2 [(0, .ref r), (1, .int x)] := hl
  have hS : va_S A s.heap s.heap [] := va_S.rf
  have oi := hts (.methodLink RX9 1 objectInit) (by decide +kernel)
  have oin := hts (.instanceMethod objectInit) (by decide +kernel)
  have oic := hts (.code objectInit ⟨#[0xb1]⟩ 1 none) (by decide +kernel)
  have f7 := hts (.fieldLink RX9 7 "PeepBoxLaw$Random" "seed" "I") (by decide +kernel)
  have inX9 : ∀ w ∈ wsX90, w ∈ wsX9_init := by decide +kernel
  obtain ⟨QQ, hQQ⟩ : ∃ Q9, Q9 = MQ below (kQv D [(r, .inr (9, [.int x]))] A) args s 0 0 A := ⟨_, rfl⟩
  rw [← hQQ]
  obtain ⟨H, hH⟩ : ∃ H9, H9 = s.heap := ⟨_, rfl⟩
  have hP : va_P D vwCl ([(r, .inr (9, [.int (0 : Int32)]))]) H := by rw [hH]; exact hP
  have hS : va_S A s.heap H [] := by rw [hH]; exact hS
  rw [← hH]
  refine lv_aload_n hx hb dX9_init_0 rfl (lv_at hl 0 rfl) ?_
  refine W.objInit hx hb hown oi oin oic rfl (by rw [hml]; exact hl.1) rfl dX9_init_1 (Nat.le_of_ble_eq_true rfl) (Nat.le_of_ble_eq_true rfl) ?_
  show W p l e ({ frames := 1, cells := 0, slots := 0, locals := 20 } : Room) s m args below meth c H _ 0 0 QQ (F0 m 4 ls [])
  refine lv_aload_n hx hb dX9_init_4 rfl (lv_at hl 0 rfl) ?_
  refine lv_iload_n hx hb dX9_init_5 rfl (lv_at hl 1 rfl) ?_
  refine va_put (D := D) (ci := 9) (v := .int x) (ty := .int) (C := RX9) (T := TX9) (N := 1) hx hb hts inX9 tyX9 tyX9_ok nmX9 hown hK hP hD hS 0 rfl rfl 0 (by decide) f7 (fun _ h9 => h9) (by decide +kernel) rfl rfl rfl (Nat.le_of_ble_eq_true rfl) dX9_init_6 (fun H locs hP hD hS => ?_)
  have hP : va_P D vwCl ([(r, .inr (9, [.int x]))]) H := hP
  have hD : va_D A ([(r, .inr (9, [.int x]))]) := hD
  rw [hQQ]
  exact kr_v hx hb hr hlocks hP hD hS dX9_init_9
theorem kd_X9_below : yX9_below.cls = RX9 ∧ yX9_below.cls ≠ "java/lang/invoke/MethodHandle" ∧ yX9_below.cls ≠ "java/lang/invoke/VarHandle" ∧ (parseMethodDescriptor yX9_below.desc).map (fun d => d.parameters.length) = some 1 := by decide +kernel
set_option maxHeartbeats 4000000 in
set_option maxRecDepth 100000 in
theorem c_X9_below {l : Launch} {D : va_G} {cy : Nat → ClassId} (r k sz : Nat) (sd : Int32) (h0 : 0 < k) (hk : k < 2 ^ 30) : Met l yX9_below wsX9_below ({ frames := 0, cells := 0, slots := 0, locals := 0 } : Room) (kP (EN D cy) D [.ref r, .int (nI k)] ([(r, .inr (9, [.int sd]))]) sz) (kQi D (nI (rnV sd % k)) [(r, .inr (9, [.int (rnS sd)]))] (va_A ([(r, .inr (9, [.int sd]))]) sz)) 0 0 (va_A ([(r, .inr (9, [.int sd]))]) sz) := by
  refine kMet (y := yX9_below) (av := [.ref r, .int (nI k)]) (cc := cX9_below) (maxL := 2) (ret := some .int) (own := RX9) (Qc := fun A9 => (kQi D (nI (rnV sd % k)) [(r, .inr (9, [.int (rnS sd)]))] A9)) (by decide) rfl rfl (Nat.le_of_ble_eq_true rfl) ?_
  intro p e s m args below meth c A hx hb hr hts hown hml hlocks hname hE hP hD hA hsz ls hl
  have hK := hE.1
  have hl : lv_has ls 2 [(0, .ref r), (1, .int (nI k))] := hl
  have hS : va_S A s.heap s.heap [] := va_S.rf
  have c13 := hts (.constant RX9 13 (1103515245)) (by decide +kernel)
  have f7 := hts (.fieldLink RX9 7 "PeepBoxLaw$Random" "seed" "I") (by decide +kernel)
  have inX9 : ∀ w ∈ wsX90, w ∈ wsX9_below := by decide +kernel
  obtain ⟨QQ, hQQ⟩ : ∃ Q9, Q9 = MQ below (kQi D (nI (rnV sd % k)) [(r, .inr (9, [.int (rnS sd)]))] A) args s 0 0 A := ⟨_, rfl⟩
  rw [← hQQ]
  obtain ⟨H, hH⟩ : ∃ H9, H9 = s.heap := ⟨_, rfl⟩
  have hP : va_P D vwCl ([(r, .inr (9, [.int sd]))]) H := by rw [hH]; exact hP
  have hS : va_S A s.heap H [] := by rw [hH]; exact hS
  rw [← hH]
  refine lv_aload_n hx hb dX9_below_0 rfl (lv_at hl 0 rfl) ?_
  refine lv_ldc (v := 1103515245) hx hb hown c13 dX9_below_1 ?_
  refine lv_aload_n hx hb dX9_below_3 rfl (lv_at hl 0 rfl) ?_
  refine va_get (D := D) (ci := 9) (v := .int sd) (C := RX9) (T := TX9) (N := 1) hx hb hts inX9 hown hK hP 0 rfl rfl 0 (by decide) f7 (fun _ h9 => h9) rfl dX9_below_4 ?_
  refine lv_imul hx hb dX9_below_7 ?_
  refine lv_sipush (v := 12345) hx hb dX9_below_8 (by decide) ?_
  refine lv_iadd hx hb dX9_below_11 ?_
  obtain ⟨s2, es2⟩ : ∃ y : Int32, y = rnS sd := ⟨_, rfl⟩
  rw [show (((1103515245 : Int32) * sd) + (12345 : Int32)) = s2 from es2.symm]
  refine va_put (D := D) (ci := 9) (v := .int s2) (ty := .int) (C := RX9) (T := TX9) (N := 1) hx hb hts inX9 tyX9 tyX9_ok nmX9 hown hK hP hD hS 0 rfl rfl 0 (by decide) f7 (fun _ h9 => h9) (by decide +kernel) rfl rfl rfl (Nat.le_of_ble_eq_true rfl) dX9_below_12 (fun H locs hP hD hS => ?_)
  have hP : va_P D vwCl ([(r, .inr (9, [.int s2]))]) H := hP
  have hD : va_D A ([(r, .inr (9, [.int s2]))]) := hD
  refine lv_aload_n hx hb dX9_below_15 rfl (lv_at hl 0 rfl) ?_
  refine va_get (D := D) (ci := 9) (v := .int s2) (C := RX9) (T := TX9) (N := 1) hx hb hts inX9 hown hK hP 0 rfl rfl 0 (by decide) f7 (fun _ h9 => h9) rfl dX9_below_16 ?_
  refine lv_bipush (v := 16) hx hb dX9_below_19 (by decide) ?_
  refine lv_iushr hx hb dX9_below_21 rfl ?_
  rw [show ((s2).toUInt32 >>> (((16 : Int32)).toUInt32 &&& Int32.toUInt32 31)).toInt32 = (nI (rnV sd)) from (by rw [rn_shr, es2]; rfl)]
  refine lv_iload_n hx hb dX9_below_22 rfl (lv_at hl 1 rfl) ?_
  refine lv_irem hx hb dX9_below_23 (nI_ne0 h0 (by omega)) ?_
  rw [show ((nI (rnV sd)) - (nI (rnV sd)) / (nI k) * (nI k)) = (nI (rnV sd % k)) from (pk_rem (by have := rnV_lt sd; omega) h0 (by omega))]
  rw [es2] at hP hD
  rw [hQQ]
  exact kr_i hx hb hr hlocks hP hD hS dX9_below_24
/-- a new guest's numbers -/
def gNew (t w c : Int32) : Nat → Int32 := fun j => match j with
  | 0 => t
  | 1 => w
  | 2 => c
  | 3 => 0
  | 4 => -1
  | _ => 0
theorem kd_X7_init : yX7_init.cls ≠ "java/lang/invoke/MethodHandle" ∧ yX7_init.cls ≠ "java/lang/invoke/VarHandle" ∧ (parseMethodDescriptor yX7_init.desc).map (fun d => d.parameters.length) = some 3 := by decide +kernel
set_option maxHeartbeats 4000000 in
set_option maxRecDepth 100000 in
theorem c_X7_init {l : Launch} {D : va_G} {cy : Nat → ClassId} (x sz : Nat) (t0 w0 c0 : Int32) : Met l yX7_init wsX7_init ({ frames := 1, cells := 0, slots := 0, locals := 20 } : Room) (kP (EN D cy) D [.ref x, .int t0, .int w0, .int c0] ([(x, .inr (7, [.int (0 : Int32), .int (0 : Int32), .int (0 : Int32), .int (0 : Int32), .int (0 : Int32), .int (0 : Int32), .int (0 : Int32)]))]) sz) (kQv D [(x, guestE (gNew t0 w0 c0))] (va_A ([(x, .inr (7, [.int (0 : Int32), .int (0 : Int32), .int (0 : Int32), .int (0 : Int32), .int (0 : Int32), .int (0 : Int32), .int (0 : Int32)]))]) sz)) 0 0 (va_A ([(x, .inr (7, [.int (0 : Int32), .int (0 : Int32), .int (0 : Int32), .int (0 : Int32), .int (0 : Int32), .int (0 : Int32), .int (0 : Int32)]))]) sz) := by
  refine kMet (y := yX7_init) (av := [.ref x, .int t0, .int w0, .int c0]) (cc := cX7_init) (maxL := 4) (ret := none) (own := RX7) (Qc := fun A9 => (kQv D [(x, guestE (gNew t0 w0 c0))] A9)) (by decide) rfl rfl (Nat.le_of_ble_eq_true rfl) ?_
  intro p e s m args below meth c A hx hb hr hts hown hml hlocks hname hE hP hD hA hsz ls hl
  have hK := hE.1
  have hl : lv_has ls 4 [(0, .ref x), (1, .int t0), (2, .int w0), (3, .int c0)] := hl
  have hS : va_S A s.heap s.heap [] := va_S.rf
  have oi := hts (.methodLink RX7 1 objectInit) (by decide +kernel)
  have oin := hts (.instanceMethod objectInit) (by decide +kernel)
  have oic := hts (.code objectInit ⟨#[0xb1]⟩ 1 none) (by decide +kernel)
  have f7 := hts (.fieldLink RX7 7 "PeepBoxLaw$Guest" "hole" "I") (by decide +kernel)
  have inX7 : ∀ w ∈ wsX70, w ∈ wsX7_init := by decide +kernel
  have f13 := hts (.fieldLink RX7 13 "PeepBoxLaw$Guest" "tall" "I") (by decide +kernel)
  have f16 := hts (.fieldLink RX7 16 "PeepBoxLaw$Guest" "wish" "I") (by decide +kernel)
  have f19 := hts (.fieldLink RX7 19 "PeepBoxLaw$Guest" "coins" "I") (by decide +kernel)
  obtain ⟨QQ, hQQ⟩ : ∃ Q9, Q9 = MQ below (kQv D [(x, guestE (gNew t0 w0 c0))] A) args s 0 0 A := ⟨_, rfl⟩
  rw [← hQQ]
  obtain ⟨H, hH⟩ : ∃ H9, H9 = s.heap := ⟨_, rfl⟩
  have hP : va_P D vwCl ([(x, .inr (7, [.int (0 : Int32), .int (0 : Int32), .int (0 : Int32), .int (0 : Int32), .int (0 : Int32), .int (0 : Int32), .int (0 : Int32)]))]) H := by rw [hH]; exact hP
  have hS : va_S A s.heap H [] := by rw [hH]; exact hS
  rw [← hH]
  refine lv_aload_n hx hb dX7_init_0 rfl (lv_at hl 0 rfl) ?_
  refine W.objInit hx hb hown oi oin oic rfl (by rw [hml]; exact hl.1) rfl dX7_init_1 (Nat.le_of_ble_eq_true rfl) (Nat.le_of_ble_eq_true rfl) ?_
  show W p l e ({ frames := 1, cells := 0, slots := 0, locals := 20 } : Room) s m args below meth c H _ 0 0 QQ (F0 m 4 ls [])
  refine lv_aload_n hx hb dX7_init_4 rfl (lv_at hl 0 rfl) ?_
  refine lv_iconst (v := -1) hx hb dX7_init_5 (by decide) ?_
  refine va_put (D := D) (ci := 7) (v := .int (-1 : Int32)) (ty := .int) (C := RX7) (T := TX7) (N := 7) hx hb hts inX7 tyX7 tyX7_ok nmX7 hown hK hP hD hS 0 rfl rfl 4 (by decide) f7 (fun _ h9 => h9) (by decide +kernel) rfl rfl rfl (Nat.le_of_ble_eq_true rfl) dX7_init_6 (fun H locs hP hD hS => ?_)
  have hP : va_P D vwCl ([(x, .inr (7, [.int (0 : Int32), .int (0 : Int32), .int (0 : Int32), .int (0 : Int32), .int (-1 : Int32), .int (0 : Int32), .int (0 : Int32)]))]) H := hP
  have hD : va_D A ([(x, .inr (7, [.int (0 : Int32), .int (0 : Int32), .int (0 : Int32), .int (0 : Int32), .int (-1 : Int32), .int (0 : Int32), .int (0 : Int32)]))]) := hD
  refine lv_aload_n hx hb dX7_init_9 rfl (lv_at hl 0 rfl) ?_
  refine lv_iload_n hx hb dX7_init_10 rfl (lv_at hl 1 rfl) ?_
  refine va_put (D := D) (ci := 7) (v := .int t0) (ty := .int) (C := RX7) (T := TX7) (N := 7) hx hb hts inX7 tyX7 tyX7_ok nmX7 hown hK hP hD hS 0 rfl rfl 0 (by decide) f13 (fun _ h9 => h9) (by decide +kernel) rfl rfl rfl (Nat.le_of_ble_eq_true rfl) dX7_init_11 (fun H locs hP hD hS => ?_)
  have hP : va_P D vwCl ([(x, .inr (7, [.int t0, .int (0 : Int32), .int (0 : Int32), .int (0 : Int32), .int (-1 : Int32), .int (0 : Int32), .int (0 : Int32)]))]) H := hP
  have hD : va_D A ([(x, .inr (7, [.int t0, .int (0 : Int32), .int (0 : Int32), .int (0 : Int32), .int (-1 : Int32), .int (0 : Int32), .int (0 : Int32)]))]) := hD
  refine lv_aload_n hx hb dX7_init_14 rfl (lv_at hl 0 rfl) ?_
  refine lv_iload_n hx hb dX7_init_15 rfl (lv_at hl 2 rfl) ?_
  refine va_put (D := D) (ci := 7) (v := .int w0) (ty := .int) (C := RX7) (T := TX7) (N := 7) hx hb hts inX7 tyX7 tyX7_ok nmX7 hown hK hP hD hS 0 rfl rfl 1 (by decide) f16 (fun _ h9 => h9) (by decide +kernel) rfl rfl rfl (Nat.le_of_ble_eq_true rfl) dX7_init_16 (fun H locs hP hD hS => ?_)
  have hP : va_P D vwCl ([(x, .inr (7, [.int t0, .int w0, .int (0 : Int32), .int (0 : Int32), .int (-1 : Int32), .int (0 : Int32), .int (0 : Int32)]))]) H := hP
  have hD : va_D A ([(x, .inr (7, [.int t0, .int w0, .int (0 : Int32), .int (0 : Int32), .int (-1 : Int32), .int (0 : Int32), .int (0 : Int32)]))]) := hD
  refine lv_aload_n hx hb dX7_init_19 rfl (lv_at hl 0 rfl) ?_
  refine lv_iload_n hx hb dX7_init_20 rfl (lv_at hl 3 rfl) ?_
  refine va_put (D := D) (ci := 7) (v := .int c0) (ty := .int) (C := RX7) (T := TX7) (N := 7) hx hb hts inX7 tyX7 tyX7_ok nmX7 hown hK hP hD hS 0 rfl rfl 2 (by decide) f19 (fun _ h9 => h9) (by decide +kernel) rfl rfl rfl (Nat.le_of_ble_eq_true rfl) dX7_init_21 (fun H locs hP hD hS => ?_)
  have hP : va_P D vwCl ([(x, .inr (7, [.int t0, .int w0, .int c0, .int (0 : Int32), .int (-1 : Int32), .int (0 : Int32), .int (0 : Int32)]))]) H := hP
  have hD : va_D A ([(x, .inr (7, [.int t0, .int w0, .int c0, .int (0 : Int32), .int (-1 : Int32), .int (0 : Int32), .int (0 : Int32)]))]) := hD
  rw [hQQ]
  exact kr_v hx hb hr hlocks hP hD hS dX7_init_24
theorem kd_X7_copy : yX7_copy.cls = RX7 ∧ yX7_copy.cls ≠ "java/lang/invoke/MethodHandle" ∧ yX7_copy.cls ≠ "java/lang/invoke/VarHandle" ∧ (parseMethodDescriptor yX7_copy.desc).map (fun d => d.parameters.length) = some 0 := by decide +kernel
set_option maxHeartbeats 4000000 in
set_option maxRecDepth 100000 in
theorem c_X7_copy {l : Launch} {D : va_G} {cy : Nat → ClassId} (x sz : Nat) (f : Nat → Int32) : Met l yX7_copy wsX7_copy ({ frames := 2, cells := 1, slots := 7, locals := 60 } : Room) (kP (EC D cy x f) D [.ref x] (([] : va_W)) sz) (kQR D (fun (_ : Unit) (_ : Nat) => True) (fun _ r => [(r, guestE f)]) (va_A (([] : va_W)) sz)) 1 7 (va_A (([] : va_W)) sz) := by
  refine kMet (y := yX7_copy) (av := [.ref x]) (cc := cX7_copy) (maxL := 2) (ret := some (.object "PeepBoxLaw$Guest")) (own := RX7) (Qc := fun A9 => (kQR D (fun (_ : Unit) (_ : Nat) => True) (fun _ r => [(r, guestE f)]) A9)) (by decide) rfl rfl (Nat.le_of_ble_eq_true rfl) ?_
  intro p e s m args below meth c A hx hb hr hts hown hml hlocks hname hE hP hD hA hsz ls hl
  obtain ⟨hE, gx⟩ := hE
  have hK := hE.1
  have hl : lv_has ls 2 [(0, .ref x)] := hl
  have hS : va_S A s.heap s.heap [] := va_S.rf
  have k8 := hts (.classLink RX7 8 RX7) (by decide +kernel)
  have nX7 := hts (.instantiable RX7 7) (by decide +kernel)
  have iRX7 := hts (.initialized RX7) (by decide +kernel)
  have inX7 : ∀ w ∈ wsX70, w ∈ wsX7_copy := by decide +kernel
  have f13 := hts (.fieldLink RX7 13 "PeepBoxLaw$Guest" "tall" "I") (by decide +kernel)
  have f16 := hts (.fieldLink RX7 16 "PeepBoxLaw$Guest" "wish" "I") (by decide +kernel)
  have f19 := hts (.fieldLink RX7 19 "PeepBoxLaw$Guest" "coins" "I") (by decide +kernel)
  have l22 := hts (.methodLink RX7 22 yX7_init) (by decide +kernel)
  have imX7_init := hts (.instanceMethod yX7_init) (by decide +kernel)
  have f25 := hts (.fieldLink RX7 25 "PeepBoxLaw$Guest" "state" "I") (by decide +kernel)
  have f7 := hts (.fieldLink RX7 7 "PeepBoxLaw$Guest" "hole" "I") (by decide +kernel)
  have f28 := hts (.fieldLink RX7 28 "PeepBoxLaw$Guest" "left" "I") (by decide +kernel)
  have f31 := hts (.fieldLink RX7 31 "PeepBoxLaw$Guest" "paid" "I") (by decide +kernel)
  obtain ⟨QQ, hQQ⟩ : ∃ Q9, Q9 = MQ below (kQR D (fun (_ : Unit) (_ : Nat) => True) (fun _ r => [(r, guestE f)]) A) args s 1 7 A := ⟨_, rfl⟩
  rw [← hQQ]
  obtain ⟨H, hH⟩ : ∃ H9, H9 = s.heap := ⟨_, rfl⟩
  have hP : va_P D vwCl (([] : va_W)) H := by rw [hH]; exact hP
  have hS : va_S A s.heap H [] := by rw [hH]; exact hS
  rw [← hH]
  refine va_new (ci := 7) (fs := [.int 0, .int 0, .int 0, .int 0, .int 0, .int 0, .int 0]) (C := RX7) (T := TX7) (N := 7) hx hb hts inX7 tyX7 tyX7_ok hown k8 nX7 iRX7 hK hP hD hS hA rfl (fun j hj => by rcases (show j = 0 ∨ j = 1 ∨ j = 2 ∨ j = 3 ∨ j = 4 ∨ j = 5 ∨ j = 6 by omega) with rfl | rfl | rfl | rfl | rfl | rfl | rfl <;> rfl) (Nat.le_of_ble_eq_true rfl) (Nat.le_of_ble_eq_true rfl) dX7_copy_0 (fun q H hP hD hS => ?_)
  have hP : va_P D vwCl ([(q, .inr (7, [.int (0 : Int32), .int (0 : Int32), .int (0 : Int32), .int (0 : Int32), .int (0 : Int32), .int (0 : Int32), .int (0 : Int32)]))]) H := hP
  have hD : va_D A ([(q, .inr (7, [.int (0 : Int32), .int (0 : Int32), .int (0 : Int32), .int (0 : Int32), .int (0 : Int32), .int (0 : Int32), .int (0 : Int32)]))]) := hD
  refine lv_dup hx hb dX7_copy_3 rfl ?_
  refine lv_aload_n hx hb dX7_copy_4 rfl (lv_at hl 0 rfl) ?_
  refine va_get (D := D) (ci := 7) (v := .int (f 0)) (C := RX7) (T := TX7) (N := 7) hx hb hts inX7 hown hK (gx.P hS) 0 rfl rfl 0 (by decide) f13 (fun _ h9 => h9) rfl dX7_copy_5 ?_
  refine lv_aload_n hx hb dX7_copy_8 rfl (lv_at hl 0 rfl) ?_
  refine va_get (D := D) (ci := 7) (v := .int (f 1)) (C := RX7) (T := TX7) (N := 7) hx hb hts inX7 hown hK (gx.P hS) 0 rfl rfl 1 (by decide) f16 (fun _ h9 => h9) rfl dX7_copy_9 ?_
  refine lv_aload_n hx hb dX7_copy_12 rfl (lv_at hl 0 rfl) ?_
  refine va_get (D := D) (ci := 7) (v := .int (f 2)) (C := RX7) (T := TX7) (N := 7) hx hb hts inX7 hown hK (gx.P hS) 0 rfl rfl 2 (by decide) f19 (fun _ h9 => h9) rfl dX7_copy_13 ?_
  refine kc_v (va_runI (As := [.int (f 0), .int (f 1), .int (f 2)]) (rest := [.ref q]) ⟨hx, hb, hml, hown, hts⟩ (c_X7_init q H.size (f 0) (f 1) (f 2)) (cwI 3 hts gX7_copy_X7_init rfl rfl rfl iRX7 l22 imX7_init rfl kd_X7_init ⟨Nat.le_of_ble_eq_true rfl, Nat.le_of_ble_eq_true rfl⟩) ⟨kP_blind (EN_ok D cy) D _ _ _, kStart (EN_ok D cy) hE hP hD hS hA [0] rfl rfl _⟩ rfl rfl hl.1 rfl (lv_room (Nat.le_of_ble_eq_true rfl)) dX7_copy_16 ⟨Nat.le_of_ble_eq_true rfl, Nat.le_of_ble_eq_true rfl⟩) hP hD hS hA [0] rfl (Nat.le_refl _) (fun H locs hP hD hS => ?_)
  have hP : va_P D vwCl ([(q, .inr (7, [.int (f 0), .int (f 1), .int (f 2), .int (0 : Int32), .int (-1 : Int32), .int (0 : Int32), .int (0 : Int32)]))]) H := hP
  have hD : va_D A ([(q, .inr (7, [.int (f 0), .int (f 1), .int (f 2), .int (0 : Int32), .int (-1 : Int32), .int (0 : Int32), .int (0 : Int32)]))]) := hD
  refine lv_astore_n (lv' := [(1, .ref q), (0, .ref x)]) hx hb dX7_copy_19 rfl hl (by decide) rfl (fun ls hl => ?_)
  refine lv_aload_n hx hb dX7_copy_20 rfl (lv_at hl 0 rfl) ?_
  refine lv_aload_n hx hb dX7_copy_21 rfl (lv_at hl 1 rfl) ?_
  refine va_get (D := D) (ci := 7) (v := .int (f 3)) (C := RX7) (T := TX7) (N := 7) hx hb hts inX7 hown hK (gx.P hS) 0 rfl rfl 3 (by decide) f25 (fun _ h9 => h9) rfl dX7_copy_22 ?_
  refine va_put (D := D) (ci := 7) (v := .int (f 3)) (ty := .int) (C := RX7) (T := TX7) (N := 7) hx hb hts inX7 tyX7 tyX7_ok nmX7 hown hK hP hD hS 0 rfl rfl 3 (by decide) f25 (fun _ h9 => h9) (by decide +kernel) rfl rfl rfl (Nat.le_of_ble_eq_true rfl) dX7_copy_25 (fun H locs hP hD hS => ?_)
  have hP : va_P D vwCl ([(q, .inr (7, [.int (f 0), .int (f 1), .int (f 2), .int (f 3), .int (-1 : Int32), .int (0 : Int32), .int (0 : Int32)]))]) H := hP
  have hD : va_D A ([(q, .inr (7, [.int (f 0), .int (f 1), .int (f 2), .int (f 3), .int (-1 : Int32), .int (0 : Int32), .int (0 : Int32)]))]) := hD
  refine lv_aload_n hx hb dX7_copy_28 rfl (lv_at hl 0 rfl) ?_
  refine lv_aload_n hx hb dX7_copy_29 rfl (lv_at hl 1 rfl) ?_
  refine va_get (D := D) (ci := 7) (v := .int (f 4)) (C := RX7) (T := TX7) (N := 7) hx hb hts inX7 hown hK (gx.P hS) 0 rfl rfl 4 (by decide) f7 (fun _ h9 => h9) rfl dX7_copy_30 ?_
  refine va_put (D := D) (ci := 7) (v := .int (f 4)) (ty := .int) (C := RX7) (T := TX7) (N := 7) hx hb hts inX7 tyX7 tyX7_ok nmX7 hown hK hP hD hS 0 rfl rfl 4 (by decide) f7 (fun _ h9 => h9) (by decide +kernel) rfl rfl rfl (Nat.le_of_ble_eq_true rfl) dX7_copy_33 (fun H locs hP hD hS => ?_)
  have hP : va_P D vwCl ([(q, .inr (7, [.int (f 0), .int (f 1), .int (f 2), .int (f 3), .int (f 4), .int (0 : Int32), .int (0 : Int32)]))]) H := hP
  have hD : va_D A ([(q, .inr (7, [.int (f 0), .int (f 1), .int (f 2), .int (f 3), .int (f 4), .int (0 : Int32), .int (0 : Int32)]))]) := hD
  refine lv_aload_n hx hb dX7_copy_36 rfl (lv_at hl 0 rfl) ?_
  refine lv_aload_n hx hb dX7_copy_37 rfl (lv_at hl 1 rfl) ?_
  refine va_get (D := D) (ci := 7) (v := .int (f 5)) (C := RX7) (T := TX7) (N := 7) hx hb hts inX7 hown hK (gx.P hS) 0 rfl rfl 5 (by decide) f28 (fun _ h9 => h9) rfl dX7_copy_38 ?_
  refine va_put (D := D) (ci := 7) (v := .int (f 5)) (ty := .int) (C := RX7) (T := TX7) (N := 7) hx hb hts inX7 tyX7 tyX7_ok nmX7 hown hK hP hD hS 0 rfl rfl 5 (by decide) f28 (fun _ h9 => h9) (by decide +kernel) rfl rfl rfl (Nat.le_of_ble_eq_true rfl) dX7_copy_41 (fun H locs hP hD hS => ?_)
  have hP : va_P D vwCl ([(q, .inr (7, [.int (f 0), .int (f 1), .int (f 2), .int (f 3), .int (f 4), .int (f 5), .int (0 : Int32)]))]) H := hP
  have hD : va_D A ([(q, .inr (7, [.int (f 0), .int (f 1), .int (f 2), .int (f 3), .int (f 4), .int (f 5), .int (0 : Int32)]))]) := hD
  refine lv_aload_n hx hb dX7_copy_44 rfl (lv_at hl 0 rfl) ?_
  refine lv_aload_n hx hb dX7_copy_45 rfl (lv_at hl 1 rfl) ?_
  refine va_get (D := D) (ci := 7) (v := .int (f 6)) (C := RX7) (T := TX7) (N := 7) hx hb hts inX7 hown hK (gx.P hS) 0 rfl rfl 6 (by decide) f31 (fun _ h9 => h9) rfl dX7_copy_46 ?_
  refine va_put (D := D) (ci := 7) (v := .int (f 6)) (ty := .int) (C := RX7) (T := TX7) (N := 7) hx hb hts inX7 tyX7 tyX7_ok nmX7 hown hK hP hD hS 0 rfl rfl 6 (by decide) f31 (fun _ h9 => h9) (by decide +kernel) rfl rfl rfl (Nat.le_of_ble_eq_true rfl) dX7_copy_49 (fun H locs hP hD hS => ?_)
  have hP : va_P D vwCl ([(q, .inr (7, [.int (f 0), .int (f 1), .int (f 2), .int (f 3), .int (f 4), .int (f 5), .int (f 6)]))]) H := hP
  have hD : va_D A ([(q, .inr (7, [.int (f 0), .int (f 1), .int (f 2), .int (f 3), .int (f 4), .int (f 5), .int (f 6)]))]) := hD
  refine lv_aload_n hx hb dX7_copy_52 rfl (lv_at hl 0 rfl) ?_
  rw [hQQ]
  exact kr_R () trivial hx hb hr (Or.inl ⟨_, rfl⟩) hlocks hP hD hS dX7_copy_53 (Nat.le_of_ble_eq_true rfl) (Nat.le_of_ble_eq_true rfl)
