/-! NUMBERS: the start: two boxes open but the back -/
theorem DG_lay2 {d : Nat → Int32} (L : BegD 4 3 2 2 0 d) : DG (upd d 3 (1 : Int32)) lay2 := by
  obtain ⟨b0, b1, b2, b3, b4, b5, b6, b7, b8⟩ := L
  have o : ∀ j, j ≠ 3 → upd d 3 (1 : Int32) j = d j := fun j hj => pk_un hj
  refine ⟨⟨by rw [o _ (by decide), b0]; rfl, by rw [o _ (by decide), b1]; rfl, by rw [o _ (by decide), b2]; rfl, pk_us, by rw [o _ (by decide), b6 7 (by decide) (by decide)]; rfl⟩, ⟨by decide, by decide, by decide, by decide, by decide⟩, ⟨by rw [o _ (by decide), b4]; rfl, by rw [o _ (by decide), b5]; rfl, by rw [o _ (by decide), b6 6 (by decide) (by decide)]; rfl⟩, fun p hp => ?_, fun p hp y hy => ⟨List.length_replicate, fun x hx => ?_⟩, fun k hk => ?_, fun v hv => absurd hv (Nat.not_lt_zero v), Or.inl ⟨rfl, by rw [o _ (by decide), b6 8 (by decide) (by decide)]⟩⟩
  · have hp : p < 2 := hp
    rw [o _ (by omega), b6 (10 + p) (by omega) (by omega)]; rfl
  · have hp : p < 2 := hp
    have hy : y < 3 := hy
    have hx : x < 4 := hx
    show (List.replicate 4 (lyC 2 p)).getD x 0 = chC (upd d 3 (1 : Int32) (15 + 96 * p + 4 * y + x))
    rw [o _ (by omega), Nat.add_assoc, b8 p hp (4 * y + x) (by omega) (Or.inl hp), List.getD_eq_getElem?_getD, List.getElem?_replicate, if_pos hx]
    rcases (show p = 0 ∨ p = 1 by omega) with rfl | rfl
    · rfl
    · rfl
  · have hk : k < 1 := hk
    obtain rfl : k = 0 := by omega
    exact ⟨by rw [o _ (by decide), b7 495 (by decide) (by decide)]; rfl, by rw [o _ (by decide), b7 496 (by decide) (by decide)]; rfl⟩
theorem st_start : Start0 RQ := by
  obtain ⟨r28, r30, r32, r9, g1, g2, g3, g4, RA⟩ := r_start
  obtain ⟨d, l1, l2⟩ := r_layBox (w := 4) (h := 3) (n := 2) (by omega) (by omega) (fun _ => 0)
  obtain rfl : r9 = d := Option.some.inj (g4.symm.trans l1)
  exact ⟨r28, r30, r32, fun _ => lay2, g1, g2, g3, ⟨Rf0 r9, RA, DG_lay2 l2, rfl, by decide, rfl, fun j hj => absurd hj (Nat.not_lt_zero j)⟩, ⟨rfl, rfl⟩⟩
