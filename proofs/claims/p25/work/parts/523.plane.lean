/-! NUMBERS: the reference's reader: a plane -/
section XR
variable {E : Nat} {bytes buffer : Nat → Int32} {tx : Nat → Nat}
theorem sk_one {p : Nat} (hp : p < E) (h : tx p = 32) (h2 : tx (p + 1) ≠ 32) : sk E tx p = p + 1 := by
  rw [sk_step hp h, sk_no (fun z => h2 z.2)]
theorem sk_at {p : Nat} (h : tx p ≠ 32) : sk E tx p = p := sk_no (fun z => h z.2)
/-- the draft behind y lines of the plane pl that begins at p -/
def plD (d : Nat → Int32) (w pl p : Nat) (tx : Nat → Nat) : Nat → Nat → Int32
  | 0 => d
  | y + 1 => lnD (plD d w pl p tx y) (15 + 96 * pl + w * y) (fun k => tx (p + (w + 1) * y + 1 + k)) w
theorem plD_lo {d : Nat → Int32} {w pl p j : Nat} (h : j < 15 + 96 * pl) : ∀ y, plD d w pl p tx y j = d j
  | 0 => rfl
  | y + 1 => by rw [plD, lnD_lo (by omega)]; exact plD_lo h y
theorem plD_hi {d : Nat → Int32} {w pl p j : Nat} : ∀ y, 15 + 96 * pl + w * y ≤ j → plD d w pl p tx y j = d j
  | 0, _ => rfl
  | y + 1, h => by
    have e : w * (y + 1) = w * y + w := Nat.mul_succ w y
    rw [plD, lnD_hi _ _ (by omega)]; exact plD_hi y (by omega)
theorem plD_at {d : Nat → Int32} {w pl p y x : Nat} (hx : x < w) : ∀ m, y < m → plD d w pl p tx m (15 + 96 * pl + w * y + x) = kcC (tx (p + (w + 1) * y + 1 + x))
  | 0, h => absurd h (Nat.not_lt_zero _)
  | m + 1, h => by
    rw [plD]
    by_cases e : y = m
    · rw [e, lnD_at w x hx]
    · have h1 : w * (y + 1) ≤ w * m := Nat.mul_le_mul_left w (by omega)
      have e1 : w * (y + 1) = w * y + w := Nat.mul_succ w y
      rw [lnD_lo (by omega)]; exact plD_at hx m (by omega)
theorem r_planeL (T : Txt E bytes buffer tx) {w h n pl p : Nat} (ea p1 : Int32) (w0 : 0 < w) (hw : w ≤ 12) (hh : h ≤ 8) (hn0 : 0 < n) (hn : n ≤ 5) (hpl : pl < n) (hE : p + (w + 1) * h ≤ E) (hsp : ∀ y, y < h → tx (p + (w + 1) * y) = 32) (hl : ∀ y, y < h → ∀ k, k < w → lnB (tx (p + (w + 1) * y + 1 + k)) = true) (he : chB E tx lnB (p + (w + 1) * h) = false) (hb46 : ∀ y, y < h → ∀ k, k < w → tx (p + (w + 1) * y + 1 + k) = 46 → pl ≠ n - 1) {d : Nat → Int32} (d0 : d 0 = nI w) (d1 : d 1 = nI h) (d2 : d 2 = nI n) : ∀ (fuel y : Nat), h - y < fuel → y ≤ h →
    X7_readPlane_L22 (nI E) (nI pl) buffer p1 fuel (nI y) (nI (p + (w + 1) * y)) (nI 0) ea (plD d w pl p tx y) = some (nI (p + (w + 1) * h), nI 0, ea, nI (pl + 1), plD d w pl p tx h)
  | 0, y, g, _ => absurd g (Nat.not_lt_zero _)
  | fuel + 1, y, g, hy => by
    have hE8 := T.1
    rw [X7_readPlane_L22, q_ld (i := (1 : Int32)) _ 1 _ rfl (by omega) (by omega), plD_lo (by omega), d1]
    by_cases e : y = h
    · subst e
      rw [if_pos (nI_le (Nat.le_refl _) (by omega)), s_nm, nI_1]
    · have hy' : y < h := by omega
      have e1 : (w + 1) * (y + 1) = (w + 1) * y + (w + 1) := Nat.mul_succ _ y
      have e2 : (w + 1) * (y + 1) ≤ (w + 1) * h := Nat.mul_le_mul_left _ (by omega)
      have s0 := hsp y hy'
      have l0 := hl y hy'
      have ln0 := l0 0 w0
      have hs : sk E tx (p + (w + 1) * y) = p + (w + 1) * y + 1 := sk_one (by omega) s0 (fun z => by
        rw [Nat.add_zero, z] at ln0; exact absurd ln0 (by decide))
      have hend : chB E tx lnB (p + (w + 1) * y + 1 + w) = false := by
        rw [show p + (w + 1) * y + 1 + w = p + (w + 1) * (y + 1) by omega]
        by_cases c : y + 1 = h
        · rw [c]; exact he
        · have hs2 := hsp (y + 1) (by omega)
          have e3 : (w + 1) * (y + 1 + 1) = (w + 1) * (y + 1) + (w + 1) := Nat.mul_succ _ (y + 1)
          have e4 : (w + 1) * (y + 1 + 1) ≤ (w + 1) * h := Nat.mul_le_mul_left _ (by omega)
          rw [chB_in (by omega), hs2]; decide
      have g2 := r_line T ea (p := p + (w + 1) * y) (q := p + (w + 1) * y + 1) (by omega) hs w0 hw (show y < 8 by omega) hn0 hn hpl (by omega) l0 hend (hb46 y hy') ((plD_lo (d := d) (w := w) (pl := pl) (p := p) (tx := tx) (by omega) y).trans d0) ((plD_lo (d := d) (w := w) (pl := pl) (p := p) (tx := tx) (by omega) y).trans d2)
      rw [if_neg (nI_ge hy' (by omega)), q_b4 g2, s_nm, nI_1, show p + (w + 1) * y + 1 + w = p + (w + 1) * (y + 1) by omega]
      exact r_planeL T ea p1 w0 hw hh hn0 hn hpl hE hsp hl he hb46 d0 d1 d2 fuel (y + 1) (by omega) (by omega)
theorem r_plane (T : Txt E bytes buffer tx) {w h n pl p : Nat} (ea p1 : Int32) (w0 : 0 < w) (hw : w ≤ 12) (hh : h ≤ 8) (hn0 : 0 < n) (hn : n ≤ 5) (hpl : pl < n) (hE : p + (w + 1) * h ≤ E) (hsp : ∀ y, y < h → tx (p + (w + 1) * y) = 32) (hl : ∀ y, y < h → ∀ k, k < w → lnB (tx (p + (w + 1) * y + 1 + k)) = true) (he : chB E tx lnB (p + (w + 1) * h) = false) (hb46 : ∀ y, y < h → ∀ k, k < w → tx (p + (w + 1) * y + 1 + k) = 46 → pl ≠ n - 1) {d : Nat → Int32} (d0 : d 0 = nI w) (d1 : d 1 = nI h) (d2 : d 2 = nI n) :
    X7_readPlane (nI E) (nI p) (nI 0) ea (nI pl) buffer d p1 = some (nI (p + (w + 1) * h), nI 0, ea, nI (pl + 1), plD d w pl p tx h) := by
  have g := r_planeL T ea p1 w0 hw hh hn0 hn hpl hE hsp hl he hb46 d0 d1 d2 FU 0 (by unfold FU; omega) (Nat.zero_le _)
  unfold X7_readPlane X7_readPlane_J20
  rw [q_ld (i := (2 : Int32)) d 2 _ rfl (by omega) (by omega), d2, if_neg (show ¬ nI pl = nI n from fun z => by have := (nI_eq (by omega) (by omega)).mp z; omega)]
  exact g
end XR
