/-! the reference's second pass: turns and orders -/
section SecV
variable {G : gS} {ad : Nat → Nat} {M : mS} {P : aP} {Y : aY} {c : Nat}
/-- a turn for the latest rule -/
theorem RP_turn (hA : Inj ad) (h : RP ad M P Y c) {t : Nat} (h1 : 1 ≤ pg_r P) (h5 : pg_r P ≤ 5) (h6 : ∀ r, r < pg_r P → pg_z P r ≤ 6) (hz : pg_z P (pg_r P - 1) < 6) : RP ad (wI (wI M (ad 128) (6 * (pg_r P - 1) + pg_z P (pg_r P - 1)) (zn t)) (ad 127) (pg_r P - 1) (zn (pg_z P (pg_r P - 1) + 1))) (pTurn t P) Y c := by
  obtain ⟨⟨a1, a2, a3, a4⟩, ⟨b1, b2, b3⟩, ⟨c1, c2⟩, d1, e1, e2⟩ := h
  have k : ∀ b, b ≠ 127 → b ≠ 128 → mI (wI (wI M (ad 128) (6 * (pg_r P - 1) + pg_z P (pg_r P - 1)) (zn t)) (ad 127) (pg_r P - 1) (zn (pg_z P (pg_r P - 1) + 1))) (ad b) = mI M (ad b) := fun b hb hb2 => by
    rw [mI_wI, if_neg (ad_ne hA hb), mI_wI, if_neg (ad_ne hA hb2)]
  refine ⟨⟨?_, ?_, ?_, ?_⟩, ⟨fun r g1 => ?_, fun r g1 g2 => ?_, fun r g1 k0 g2 => ?_⟩, ⟨fun j hj => ?_, fun j g1 g2 => ?_⟩, fun q hq => ?_, fun k0 hk => ?_, fun k0 g1 g2 => ?_⟩
  · rw [k 126 (by decide) (by decide)]; exact a1
  · rw [k 126 (by decide) (by decide)]; exact a2
  · rw [k 126 (by decide) (by decide)]; exact a3
  · rw [k 126 (by decide) (by decide)]; exact a4
  · have g1 : r < pg_r P := g1
    show _ = zn (if r = pg_r P - 1 then pg_z P r + 1 else pg_z P r)
    by_cases e : r = pg_r P - 1
    · rw [if_pos e, e, wI_eq]
    · rw [if_neg e, wI_ne hA (Or.inr e), wI_ne hA (Or.inl (by decide))]; exact b1 r g1
  · have g1 : pg_r P ≤ r := g1
    rw [wI_ne hA (Or.inr (by omega)), wI_ne hA (Or.inl (by decide))]
    exact b2 r g1 g2
  · have g1 : r < pg_r P := g1
    have g2 : k0 < (if r = pg_r P - 1 then pg_z P r + 1 else pg_z P r) := g2
    have z6 := h6 r g1
    rw [wI_ne hA (Or.inl (by decide))]
    show _ = zn (if r = pg_r P - 1 ∧ k0 = pg_z P (pg_r P - 1) then t else pg_t P r k0)
    by_cases e : r = pg_r P - 1 ∧ k0 = pg_z P (pg_r P - 1)
    · rw [if_pos e, e.1, e.2, wI_eq]
    · rw [if_neg e]
      have g3 : k0 < pg_z P r := by
        by_cases e2 : r = pg_r P - 1
        · rw [if_pos e2] at g2
          have : ¬ k0 = pg_z P (pg_r P - 1) := fun q => e ⟨e2, q⟩
          rw [← e2] at this
          omega
        · rw [if_neg e2] at g2; exact g2
      rw [wI_ne hA (Or.inr (by
        by_cases e2 : r = pg_r P - 1
        · have : ¬ k0 = pg_z P (pg_r P - 1) := fun q => e ⟨e2, q⟩
          rw [e2]
          omega
        · omega))]
      exact b3 r g1 k0 g3
  · rw [k 130 (by decide) (by decide), k 131 (by decide) (by decide), k 132 (by decide) (by decide), k 133 (by decide) (by decide)]; exact c1 j hj
  · rw [k 130 (by decide) (by decide), k 131 (by decide) (by decide), k 132 (by decide) (by decide), k 133 (by decide) (by decide)]; exact c2 j g1 g2
  · rw [k 134 (by decide) (by decide)]; exact d1 q hq
  · rw [k 135 (by decide) (by decide), k 136 (by decide) (by decide), k 137 (by decide) (by decide)]; exact e1 k0 hk
  · rw [k 136 (by decide) (by decide), k 137 (by decide) (by decide)]; exact e2 k0 g1 g2
/-- a new order -/
theorem RP_ord (hA : Inj ad) (h : RP ad M P Y c) {q : Nat} (ho : pg_o P < 20) : RP ad (wI (wI M (ad 135) (pg_o P) (zn (q - 200))) (ad 126) 11 (zn (pg_o P + 1))) (pOrd q P) Y c := by
  obtain ⟨⟨a1, a2, a3, a4⟩, ⟨b1, b2, b3⟩, ⟨c1, c2⟩, d1, e1, e2⟩ := h
  have k : ∀ b, b ≠ 126 → b ≠ 135 → mI (wI (wI M (ad 135) (pg_o P) (zn (q - 200))) (ad 126) 11 (zn (pg_o P + 1))) (ad b) = mI M (ad b) := fun b hb hb2 => by
    rw [mI_wI, if_neg (ad_ne hA hb), mI_wI, if_neg (ad_ne hA hb2)]
  refine ⟨⟨?_, ?_, ?_, ?_⟩, ⟨fun r g1 => ?_, fun r g1 g2 => ?_, fun r g1 k0 g2 => ?_⟩, ⟨fun j hj => ?_, fun j g1 g2 => ?_⟩, fun p hp => ?_, fun k0 hk => ?_, fun k0 g1 g2 => ?_⟩
  · rw [wI_ne hA (Or.inr (by decide)), wI_ne hA (Or.inl (by decide))]; exact a1
  · rw [wI_ne hA (Or.inr (by decide)), wI_ne hA (Or.inl (by decide))]; exact a2
  · rw [wI_eq]; rfl
  · rw [wI_ne hA (Or.inr (by decide)), wI_ne hA (Or.inl (by decide))]; exact a4
  · rw [k 127 (by decide) (by decide)]; exact b1 r g1
  · rw [k 127 (by decide) (by decide)]; exact b2 r g1 g2
  · rw [k 128 (by decide) (by decide)]; exact b3 r g1 k0 g2
  · rw [k 130 (by decide) (by decide), k 131 (by decide) (by decide), k 132 (by decide) (by decide), k 133 (by decide) (by decide)]; exact c1 j hj
  · rw [k 130 (by decide) (by decide), k 131 (by decide) (by decide), k 132 (by decide) (by decide), k 133 (by decide) (by decide)]; exact c2 j g1 g2
  · rw [k 134 (by decide) (by decide)]; exact d1 p hp
  · have hk : k0 < pg_o P + 1 := hk
    rw [k 136 (by decide) (by decide), k 137 (by decide) (by decide), wI_ne hA (Or.inl (by decide))]
    show _ = zn ((if k0 = pg_o P then q else pg_k P k0) - 200) ∧ _ = zn (if k0 = pg_o P then 0 else pg_f P k0) ∧ _ = zn (if k0 = pg_o P then 0 else pg_s P k0)
    by_cases e : k0 = pg_o P
    · rw [if_pos e, if_pos e, if_pos e, e, wI_eq]
      exact ⟨rfl, (e2 _ (Nat.le_refl _) ho).1, (e2 _ (Nat.le_refl _) ho).2⟩
    · rw [if_neg e, if_neg e, if_neg e, wI_ne hA (Or.inr e)]
      exact e1 k0 (by omega)
  · have g1 : pg_o P + 1 ≤ k0 := g1
    rw [k 136 (by decide) (by decide), k 137 (by decide) (by decide)]
    exact e2 k0 (by omega) g2
/-- the first number of the latest order; the second stays -/
theorem RP_one (hA : Inj ad) (h : RP ad M P Y c) {f : Nat} (ho : 1 ≤ pg_o P) : RP ad (wI M (ad 136) (pg_o P - 1) (zn f)) (pNums f (pg_s P (pg_o P - 1)) P) Y c := by
  obtain ⟨⟨a1, a2, a3, a4⟩, ⟨b1, b2, b3⟩, ⟨c1, c2⟩, d1, e1, e2⟩ := h
  have k : ∀ b, b ≠ 136 → mI (wI M (ad 136) (pg_o P - 1) (zn f)) (ad b) = mI M (ad b) := fun b hb => by
    rw [mI_wI, if_neg (ad_ne hA hb)]
  unfold pNums
  rw [if_neg (by omega)]
  refine ⟨⟨?_, ?_, ?_, ?_⟩, ⟨fun r g1 => ?_, fun r g1 g2 => ?_, fun r g1 k0 g2 => ?_⟩, ⟨fun j hj => ?_, fun j g1 g2 => ?_⟩, fun p hp => ?_, fun k0 hk => ?_, fun k0 g1 g2 => ?_⟩
  · rw [k 126 (by decide)]; exact a1
  · rw [k 126 (by decide)]; exact a2
  · rw [k 126 (by decide)]; exact a3
  · rw [k 126 (by decide)]; exact a4
  · rw [k 127 (by decide)]; exact b1 r g1
  · rw [k 127 (by decide)]; exact b2 r g1 g2
  · rw [k 128 (by decide)]; exact b3 r g1 k0 g2
  · rw [k 130 (by decide), k 131 (by decide), k 132 (by decide), k 133 (by decide)]; exact c1 j hj
  · rw [k 130 (by decide), k 131 (by decide), k 132 (by decide), k 133 (by decide)]; exact c2 j g1 g2
  · rw [k 134 (by decide)]; exact d1 p hp
  · have hk : k0 < pg_o P := hk
    rw [k 135 (by decide), k 137 (by decide)]
    show _ ∧ _ = zn (if k0 = pg_o P - 1 then f else pg_f P k0) ∧ _ = zn (if k0 = pg_o P - 1 then pg_s P (pg_o P - 1) else pg_s P k0)
    obtain ⟨x, y, z⟩ := e1 k0 hk
    by_cases e : k0 = pg_o P - 1
    · rw [if_pos e, if_pos e, ← e, wI_eq]
      exact ⟨x, rfl, z⟩
    · rw [if_neg e, if_neg e, wI_ne hA (Or.inr e)]
      exact ⟨x, y, z⟩
  · have g1 : pg_o P ≤ k0 := g1
    rw [wI_ne hA (Or.inr (by omega)), k 137 (by decide)]
    exact e2 k0 g1 g2
/-- the second number of the latest order; the first stays -/
theorem RP_other (hA : Inj ad) (h : RP ad M P Y c) {s : Nat} (ho : 1 ≤ pg_o P) : RP ad (wI M (ad 137) (pg_o P - 1) (zn s)) (pNums (pg_f P (pg_o P - 1)) s P) Y c := by
  obtain ⟨⟨a1, a2, a3, a4⟩, ⟨b1, b2, b3⟩, ⟨c1, c2⟩, d1, e1, e2⟩ := h
  have k : ∀ b, b ≠ 137 → mI (wI M (ad 137) (pg_o P - 1) (zn s)) (ad b) = mI M (ad b) := fun b hb => by
    rw [mI_wI, if_neg (ad_ne hA hb)]
  unfold pNums
  rw [if_neg (by omega)]
  refine ⟨⟨?_, ?_, ?_, ?_⟩, ⟨fun r g1 => ?_, fun r g1 g2 => ?_, fun r g1 k0 g2 => ?_⟩, ⟨fun j hj => ?_, fun j g1 g2 => ?_⟩, fun p hp => ?_, fun k0 hk => ?_, fun k0 g1 g2 => ?_⟩
  · rw [k 126 (by decide)]; exact a1
  · rw [k 126 (by decide)]; exact a2
  · rw [k 126 (by decide)]; exact a3
  · rw [k 126 (by decide)]; exact a4
  · rw [k 127 (by decide)]; exact b1 r g1
  · rw [k 127 (by decide)]; exact b2 r g1 g2
  · rw [k 128 (by decide)]; exact b3 r g1 k0 g2
  · rw [k 130 (by decide), k 131 (by decide), k 132 (by decide), k 133 (by decide)]; exact c1 j hj
  · rw [k 130 (by decide), k 131 (by decide), k 132 (by decide), k 133 (by decide)]; exact c2 j g1 g2
  · rw [k 134 (by decide)]; exact d1 p hp
  · have hk : k0 < pg_o P := hk
    rw [k 135 (by decide), k 136 (by decide)]
    show _ ∧ _ = zn (if k0 = pg_o P - 1 then pg_f P (pg_o P - 1) else pg_f P k0) ∧ _ = zn (if k0 = pg_o P - 1 then s else pg_s P k0)
    obtain ⟨x, y, z⟩ := e1 k0 hk
    by_cases e : k0 = pg_o P - 1
    · rw [if_pos e, if_pos e, ← e, wI_eq]
      exact ⟨x, y, rfl⟩
    · rw [if_neg e, if_neg e, wI_ne hA (Or.inr e)]
      exact ⟨x, y, z⟩
  · have g1 : pg_o P ≤ k0 := g1
    rw [k 136 (by decide), wI_ne hA (Or.inr (by omega))]
    exact e2 k0 g1 g2
end SecV
