/-! NUMBERS: the law's own show (X10) looked at: what stands, what a look sees -/
theorem q_ckv {β : Type} {i : Int32} {n : Nat} (h : vp_in i n) (k : Option β) : ck (¬ (i < 0 ∨ n ≤ i.toNatClampNeg)) k = k := if_pos h
theorem q_ckw {β : Type} {u V : Nat} (h : u < V) (hu : u < 2 ^ 31) (k : Option β) : ck (¬ (nI u < 0 ∨ V ≤ u)) k = k := if_pos (show ¬ (nI u < 0 ∨ V ≤ u) from fun z => z.elim (nI_pos (by omega)) (by omega))
/-- the letter of a cell's kind -/
def chC (c : Int32) : Int32 := if c = -1 then 46 else (97 : Int32) + c
theorem chC_open : chC (-1) = nI 46 := by decide
theorem chC_kind {k : Nat} (h : k < 26) : chC (nI k) = nI (97 + k) := by
  unfold chC; rw [if_neg (ne_m1 h)]; exact nI_add 97 k
/-- the show G in numbers: those that the class' show is said in -/
def NG (G : LG) (w h n HN V LL rc : Nat) (pull hx hy : Nat → Nat) (cells : Nat → Int32) (ti : Int32) (fa : Nat → Int32) : Prop :=
  (shZ G 0 = w ∧ shZ G 1 = h ∧ shZ G 2 = n ∧ shZ G 3 = HN ∧ shZ G 4 = V) ∧ (shI G 0 = nI rc ∧ shI G 1 = nI LL ∧ shI G 2 = ti) ∧ (∀ p, p < n → shP G p = nI (pull p)) ∧
  (∀ p, p < n → ∀ y, y < h → (shT G p y).length = w ∧ ∀ x, x < w → (shT G p y).getD x 0 = chC (cells (p * 96 + y * 12 + x))) ∧ (∀ k, k < HN → shH G k 0 = nI (hx k) ∧ shH G k 1 = nI (hy k)) ∧ ∀ v, v < V → ∀ j, j < 7 → shG G v j = fa (v * 7 + j)
theorem kCh_nI {tx : List Int32} {x m : Nat} (h : tx.getD x 0 = nI m) (hm : m < 128) (hx : x < 2 ^ 31) : kCh tx (nI x) = nI m := by
  unfold kCh
  rw [nI_clamp hx, h, show (255 : Int32) = nI 255 from rfl, pk_andN (by omega) (m := nI 255) 8 (by decide), Nat.mod_eq_of_lt (show m < 2 ^ 8 by omega)]
  exact (sb_byte _ (by omega)).2.1
theorem asc_n {m : Nat} (h : m < 128) : asc (nI m) := ⟨nI_pos' (by omega), nI_lt (b := 128) h (by decide)⟩
theorem Kd_kind {w h n : Nat} {cells : Nat → Int32} {pull : Nat → Nat} (B : KBox w h n cells pull) {p x y : Nat} (hp : p < n) (xx : x < w) : Kd h cells pull p x y = -1 ∨ ∃ kk, kk < 26 ∧ Kd h cells pull p x y = nI kk := by
  unfold Kd
  by_cases c : h ≤ y + pull p
  · rw [if_pos c]; exact Or.inl rfl
  · rw [if_neg c]; exact B.1 p hp _ (by omega) x xx
section XA
variable {G : LG} {w h n HN V LL rc : Nat} {pull hx hy : Nat → Nat} {cells : Nat → Int32} {ti : Int32} {fa : Nat → Int32}
theorem x_on (N : NG G w h n HN V LL rc pull hx hy cells ti fa) {a b p : Nat} (ha : a < 12) (hb : b < 12) (hp : p < n) (hn : n ≤ 5) : X10_on G (nI a) (nI b) (nI p) = some (nI (cross a b p n)) := by
  unfold X10_on
  rw [N.1.2.2.1, q_ck (nI_ne0 (by omega) (by omega))]
  exact congrArg some (cross_32 ha hb hp hn)
theorem x_stands (N : NG G w h n HN V LL rc pull hx hy cells ti fa) (S : SBox w h n pull HN hx hy) (B : KBox w h n cells pull) {p x y : Nat} (hp : p < n) (xx : x < w) (yy : y < h) : X10_stands G (nI p) (nI x) (nI y) = some (chC (Kd h cells pull p x y)) := by
  obtain ⟨⟨z0, z1, z2, z3, z4⟩, -, nP, nT, -, -⟩ := N
  obtain ⟨sw, sh, sn, sH, sp, -⟩ := S
  have hpl := sp p hp
  unfold X10_stands
  rw [z1, z2, s_ld hp (by omega), nP p hp, nI_add]
  by_cases c : h ≤ y + pull p
  · rw [if_neg (nI_nlt c (by omega)), Kd, if_pos c, chC_open]; rfl
  · have hk := Kd_kind B (y := y) hp xx
    rw [if_pos (nI_lt (by omega) (by omega)), q_ckv (vp_in_nI hp (by omega)), s_ld hp (by omega), nP p hp, nI_add, q_ckv (vp_in_nI (by omega) (by omega)), nI_clamp (by omega), nI_clamp (by omega)]
    obtain ⟨t1, t2⟩ := nT p hp (y + pull p) (by omega)
    have e2 := t2 x xx
    have e3 : cells (p * 96 + (y + pull p) * 12 + x) = Kd h cells pull p x y := by rw [Kd, if_neg c]
    rw [e3] at e2
    have hm : ∃ m, m < 128 ∧ chC (Kd h cells pull p x y) = nI m := by
      rcases hk with e | ⟨kk, hkk, e⟩
      · exact ⟨46, by decide, by rw [e]; exact chC_open⟩
      · exact ⟨97 + kk, by omega, by rw [e]; exact chC_kind hkk⟩
    obtain ⟨m, hm, em⟩ := hm
    unfold J0_charAt_5068e
    rw [q_ck ⟨by omega, nI_pos (by omega), by rw [t1]; exact nI_lt xx (by omega)⟩, q_bn1, kCh_nI (by rw [e2, em]) hm (by omega), q_ck (char_asc (asc_n hm)), em]
theorem x_seesL (N : NG G w h n HN V LL rc pull hx hy cells ti fa) (S : SBox w h n pull HN hx hy) (B : KBox w h n cells pull) {k x y : Nat} (hk : k < HN) (xx : x < w) (yy : y < h) : ∀ fuel p, n - p < fuel → p < n → seeP (Kx w h n cells pull (hx k) (hy k) x y) n = firstP (Kx w h n cells pull (hx k) (hy k) x y) (n - 1 - p) p →
    X10_sees_L3 G (nI k) (nI x) (nI y) fuel (nI p) = some (nI (100 * spB w h n cells pull (hx k) (hy k) (y * w + x) + skB w h n cells pull (hx k) (hy k) (y * w + x))) := by
  have S0 := S
  obtain ⟨sw, sh, sn, sH, sp, shh⟩ := S0
  obtain ⟨hX, hY⟩ := shh k hk
  intro fuel
  induction fuel with
  | zero => intro p h1; omega
  | succ fuel ih =>
    intro p h1 h2 hf
    rw [X10_sees_L3, N.1.2.2.1, N.1.2.2.2.1, if_neg (nI_ge h2 (by omega)), q_ckv (vp_in_nI hk (by omega)), nI_clamp (show k < 2 ^ 31 by omega), q_ld _ 0 _ (show (0 : Int32) = nI 0 from rfl) (show 0 < 2 by decide) (by decide), (N.2.2.2.2.1 k hk).1, x_on N (by omega) (by omega) h2 (by omega), q_bn1, q_ck (show ¬ (nI k < 0 ∨ HN ≤ k) from fun z => z.elim (nI_pos (by omega)) (by omega)), q_ld _ 1 _ (show (1 : Int32) = nI 1 from rfl) (show 1 < 2 by decide) (by decide), (N.2.2.2.2.1 k hk).2, x_on N (by omega) (by omega) h2 (by omega), q_bn1, x_stands N S B h2 (cross_lt h2 hX xx) (cross_lt h2 hY yy), q_bn1]
    have eK : Kd h cells pull p (cross (hx k) x p n) (cross (hy k) y p n) = Kx w h n cells pull (hx k) (hy k) x y p := rfl
    rw [eK]
    rcases Kx_kind B hX hY xx yy h2 with e | ⟨kk, hkk, e⟩
    · have hne : p ≠ n - 1 := fun z => Kx_back B hX hY xx yy sn.1 (z ▸ e)
      rw [e, chC_open, if_pos (show nI 46 = (46 : Int32) from rfl), s_nm, nI_1]
      refine ih (p + 1) (by omega) (by omega) ?_
      rw [hf, show n - 1 - p = (n - 1 - (p + 1)) + 1 by omega, firstP, if_pos e]
    · have e1 : seeP (Kx w h n cells pull (hx k) (hy k) x y) n = p := by
        rw [hf]
        cases hm : n - 1 - p with
        | zero => rfl
        | succ m => rw [firstP, if_neg (by rw [e]; exact ne_m1 hkk)]
      have e2 : spB w h n cells pull (hx k) (hy k) (y * w + x) = p := by unfold spB; rw [tgt_x xx, tgt_y xx]; exact e1
      have e3 : skB w h n cells pull (hx k) (hy k) (y * w + x) = kk := by unfold skB; rw [e2, tgt_x xx, tgt_y xx, e, nI_clamp (by omega)]
      rw [e, chC_kind hkk, if_neg (show ¬ nI (97 + kk) = (46 : Int32) from fun z => by have := (nI_eq (b := 46) (by omega) (by decide)).mp z; omega), e2, e3, show (100 : Int32) = nI 100 from rfl, show (97 : Int32) = nI 97 from rfl, pk_mul, nI_add, pk_sub (by omega), show 100 * p + (97 + kk) - 97 = 100 * p + kk by omega]
theorem x_sees (N : NG G w h n HN V LL rc pull hx hy cells ti fa) (S : SBox w h n pull HN hx hy) (B : KBox w h n cells pull) {k x y : Nat} (hk : k < HN) (xx : x < w) (yy : y < h) : X10_sees G (nI k) (nI x) (nI y) = some (nI (100 * spB w h n cells pull (hx k) (hy k) (y * w + x) + skB w h n cells pull (hx k) (hy k) (y * w + x))) :=
  x_seesL N S B hk xx yy FU 0 (by have := S.2.2.1.2; unfold FU; omega) S.2.2.1.1 rfl
/-- what a look sees, in bounds -/
theorem x_seen (S : SBox w h n pull HN hx hy) (B : KBox w h n cells pull) {k x y : Nat} (hk : k < HN) (xx : x < w) (yy : y < h) : spB w h n cells pull (hx k) (hy k) (y * w + x) < n ∧ skB w h n cells pull (hx k) (hy k) (y * w + x) < 26 := by
  obtain ⟨hX, hY⟩ := S.2.2.2.2.2 k hk
  exact ⟨seeP_lt _ S.2.2.1.1, (skB_spec B S.1.1 S.2.2.1.1 hX hY (tgt_lt xx yy)).1⟩
/-! sums by columns -/
theorem sumN_swap (g : Nat → Nat → Nat) (m : Nat) : ∀ n : Nat, sumN (fun v => sumN (g v) m) n = sumN (fun k => sumN (fun v => g v k) n) m
  | 0 => by
    induction m with
    | zero => rfl
    | succ m ih => show 0 = sumN (fun k => sumN (fun v => g v k) 0) m + 0; rw [← ih]; rfl
  | n + 1 => by
    show sumN (fun v => sumN (g v) m) n + sumN (g n) m = sumN (fun k => sumN (fun v => g v k) n + g n k) m
    rw [sumN_swap g m n]
    induction m with
    | zero => rfl
    | succ m ih =>
      show sumN (fun k => sumN (fun v => g v k) n) m + sumN (fun v => g v m) n + (sumN (g n) m + g n m) = sumN (fun k => sumN (fun v => g v k) n + g n k) m + (sumN (fun v => g v m) n + g n m)
      rw [← ih]; omega
theorem sumN_row (f : Nat → Nat) (w y : Nat) : ∀ x : Nat, sumN f (y * w + x) = sumN f (y * w) + sumN (fun x => f (y * w + x)) x
  | 0 => rfl
  | x + 1 => by
    show sumN f (y * w + x) + f (y * w + x) = _
    rw [sumN_row f w y x]
    show _ = sumN f (y * w) + (sumN (fun x => f (y * w + x)) x + f (y * w + x))
    omega
theorem sumN_rows (f : Nat → Nat) (w : Nat) : ∀ h : Nat, sumN f (h * w) = sumN (fun y => sumN (fun x => f (y * w + x)) w) h
  | 0 => by rw [Nat.zero_mul]; rfl
  | h + 1 => by rw [Nat.succ_mul, sumN_row f w h w, sumN_rows f w h]; rfl
/-- the sum over all targets, column by column -/
theorem sumN_cols (f : Nat → Nat) (w h : Nat) : sumN (fun x => sumN (fun y => f (y * w + x)) h) w = sumN f (w * h) := by
  rw [Nat.mul_comm w h, sumN_rows f w h]; exact sumN_swap (fun x y => f (y * w + x)) h w
theorem cntN_cols (P : Nat → Bool) (w h : Nat) : sumN (fun x => cntN (fun y => P (y * w + x)) h) w = cntN P (w * h) := by
  rw [← cntN_sum P, ← sumN_cols]
  exact sumN_same w (fun x _ => (cntN_sum _ h).symm)
end XA
