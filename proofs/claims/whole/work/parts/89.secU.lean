/-! the reference's second pass: what each write makes of the plan -/
section SecU
variable {ad : Nat → Nat} {M M' : mS} {P : aP} {Y : aY} {c : Nat}
/-- an ant is changed -/
theorem RP_an {i : Nat} {A : aA} (h : RP ad M P Y c) (hi : i < yd_n Y) (k : ∀ b, b = 126 ∨ b = 127 ∨ b = 128 ∨ (134 ≤ b ∧ b < 138) → mI M' (ad b) = mI M (ad b)) (k2 : ∀ b, 130 ≤ b → b < 134 → ∀ j, j ≠ i → mI M' (ad b) j = mI M (ad b) j) (e : mI M' (ad 130) i = zn (an_r A) ∧ mI M' (ad 131) i = zn (an_x A) ∧ mI M' (ad 132) i = zn (an_y A) ∧ mI M' (ad 133) i = zn (an_s A)) : RP ad M' P (aAnt i A Y) c := by
  obtain ⟨⟨a1, a2, a3, a4⟩, ⟨b1, b2, b3⟩, ⟨c1, c2⟩, d1, e1, e2⟩ := h
  refine ⟨⟨?_, ?_, ?_, ?_⟩, ⟨fun r h1 => ?_, fun r h1 h2 => ?_, fun r h1 k0 h2 => ?_⟩, ⟨fun j hj => ?_, fun j h1 h2 => ?_⟩, fun q hq => ?_, fun k0 hk => ?_, fun k0 h1 h2 => ?_⟩
  · rw [k 126 (by decide)]; exact a1
  · rw [k 126 (by decide)]; exact a2
  · rw [k 126 (by decide)]; exact a3
  · rw [k 126 (by decide)]; exact a4
  · rw [k 127 (by decide)]; exact b1 r h1
  · rw [k 127 (by decide)]; exact b2 r h1 h2
  · rw [k 128 (by decide)]; exact b3 r h1 k0 h2
  · show _ = zn (an_r (if j = i then A else yd_a Y j)) ∧ _ = zn (an_x (if j = i then A else yd_a Y j)) ∧ _ = zn (an_y (if j = i then A else yd_a Y j)) ∧ _ = zn (an_s (if j = i then A else yd_a Y j))
    by_cases g : j = i
    · rw [if_pos g, g]; exact e
    · rw [if_neg g, k2 130 (by decide) (by decide) j g, k2 131 (by decide) (by decide) j g, k2 132 (by decide) (by decide) j g, k2 133 (by decide) (by decide) j g]
      exact c1 j hj
  · have h1 : yd_n Y ≤ j := h1
    have g : j ≠ i := by omega
    rw [k2 130 (by decide) (by decide) j g, k2 131 (by decide) (by decide) j g, k2 132 (by decide) (by decide) j g, k2 133 (by decide) (by decide) j g]
    exact c2 j h1 h2
  · rw [k 134 (by decide)]; exact d1 q hq
  · rw [k 135 (by decide), k 136 (by decide), k 137 (by decide)]; exact e1 k0 hk
  · rw [k 136 (by decide), k 137 (by decide)]; exact e2 k0 h1 h2
/-- a new ant -/
theorem RP_ant (hA : Inj ad) (h : RP ad M P Y c) (hn : yd_n Y < 6) : RP ad (wI (wI M (ad 126) 3 (zn (yd_n Y + 1))) (ad 126) 4 0) P (aBegin Y) 0 := by
  obtain ⟨⟨a1, a2, a3, a4⟩, ⟨b1, b2, b3⟩, ⟨c1, c2⟩, d1, e1, e2⟩ := h
  have k : ∀ b, b ≠ 126 → mI (wI (wI M (ad 126) 3 (zn (yd_n Y + 1))) (ad 126) 4 0) (ad b) = mI M (ad b) := fun b hb => by
    rw [mI_wI, if_neg (ad_ne hA hb), mI_wI, if_neg (ad_ne hA hb)]
  refine ⟨⟨?_, ?_, ?_, ?_⟩, ⟨fun r h1 => ?_, fun r h1 h2 => ?_, fun r h1 k0 h2 => ?_⟩, ⟨fun j hj => ?_, fun j h1 h2 => ?_⟩, fun q hq => ?_, fun k0 hk => ?_, fun k0 h1 h2 => ?_⟩
  · rw [wI_ne hA (Or.inr (by decide)), wI_ne hA (Or.inr (by decide))]; exact a1
  · rw [wI_ne hA (Or.inr (by decide)), wI_eq]; rfl
  · rw [wI_ne hA (Or.inr (by decide)), wI_ne hA (Or.inr (by decide))]; exact a3
  · rw [wI_eq]; rfl
  · rw [k 127 (by decide)]; exact b1 r h1
  · rw [k 127 (by decide)]; exact b2 r h1 h2
  · rw [k 128 (by decide)]; exact b3 r h1 k0 h2
  · have hj : j < yd_n Y + 1 := hj
    rw [k 130 (by decide), k 131 (by decide), k 132 (by decide), k 133 (by decide)]
    show _ = zn (an_r (if j = yd_n Y then an0 else yd_a Y j)) ∧ _ = zn (an_x (if j = yd_n Y then an0 else yd_a Y j)) ∧ _ = zn (an_y (if j = yd_n Y then an0 else yd_a Y j)) ∧ _ = zn (an_s (if j = yd_n Y then an0 else yd_a Y j))
    by_cases g : j = yd_n Y
    · rw [if_pos g]; exact c2 j (by omega) (by omega)
    · rw [if_neg g]; exact c1 j (by omega)
  · have h1 : yd_n Y + 1 ≤ j := h1
    rw [k 130 (by decide), k 131 (by decide), k 132 (by decide), k 133 (by decide)]
    exact c2 j (by omega) h2
  · rw [k 134 (by decide)]; exact d1 q hq
  · rw [k 135 (by decide), k 136 (by decide), k 137 (by decide)]; exact e1 k0 hk
  · rw [k 136 (by decide), k 137 (by decide)]; exact e2 k0 h1 h2
/-- the places kept are counted anew -/
theorem RP_cnt (hA : Inj ad) {c' : Nat} (h : RP ad M P Y c) : RP ad (wI M (ad 126) 4 (zn c')) P Y c' := by
  obtain ⟨⟨a1, a2, a3, a4⟩, ⟨b1, b2, b3⟩, ⟨c1, c2⟩, d1, e1, e2⟩ := h
  have k : ∀ b, b ≠ 126 → mI (wI M (ad 126) 4 (zn c')) (ad b) = mI M (ad b) := fun b hb => by
    rw [mI_wI, if_neg (ad_ne hA hb)]
  refine ⟨⟨?_, ?_, ?_, ?_⟩, ⟨fun r h1 => ?_, fun r h1 h2 => ?_, fun r h1 k0 h2 => ?_⟩, ⟨fun j hj => ?_, fun j h1 h2 => ?_⟩, fun q hq => ?_, fun k0 hk => ?_, fun k0 h1 h2 => ?_⟩
  · rw [wI_ne hA (Or.inr (by decide))]; exact a1
  · rw [wI_ne hA (Or.inr (by decide))]; exact a2
  · rw [wI_ne hA (Or.inr (by decide))]; exact a3
  · rw [wI_eq]
  · rw [k 127 (by decide)]; exact b1 r h1
  · rw [k 127 (by decide)]; exact b2 r h1 h2
  · rw [k 128 (by decide)]; exact b3 r h1 k0 h2
  · rw [k 130 (by decide), k 131 (by decide), k 132 (by decide), k 133 (by decide)]; exact c1 j hj
  · rw [k 130 (by decide), k 131 (by decide), k 132 (by decide), k 133 (by decide)]; exact c2 j h1 h2
  · rw [k 134 (by decide)]; exact d1 q hq
  · rw [k 135 (by decide), k 136 (by decide), k 137 (by decide)]; exact e1 k0 hk
  · rw [k 136 (by decide), k 137 (by decide)]; exact e2 k0 h1 h2
/-- nothing of it is changed -/
theorem RP_keep (h : RP ad M P Y c) (k : ∀ b, b ≠ 129 → 126 ≤ b → b < 138 → mI M' (ad b) = mI M (ad b)) : RP ad M' P Y c := by
  unfold RP at h ⊢
  rw [k 126 (by decide) (by decide) (by decide), k 127 (by decide) (by decide) (by decide), k 128 (by decide) (by decide) (by decide), k 130 (by decide) (by decide) (by decide), k 131 (by decide) (by decide) (by decide), k 132 (by decide) (by decide) (by decide), k 133 (by decide) (by decide) (by decide), k 134 (by decide) (by decide) (by decide), k 135 (by decide) (by decide) (by decide), k 136 (by decide) (by decide) (by decide), k 137 (by decide) (by decide) (by decide)]
  exact h
/-- a stone is painted -/
theorem RP_stone (hA : Inj ad) {q v : Nat} (h : RP ad M P Y c) : RP ad (wI M (ad 134) q (zn v)) P (aSet q v Y) c := by
  obtain ⟨⟨a1, a2, a3, a4⟩, ⟨b1, b2, b3⟩, ⟨c1, c2⟩, d1, e1, e2⟩ := h
  have k : ∀ b, b ≠ 134 → mI (wI M (ad 134) q (zn v)) (ad b) = mI M (ad b) := fun b hb => by
    rw [mI_wI, if_neg (ad_ne hA hb)]
  refine ⟨⟨?_, ?_, ?_, ?_⟩, ⟨fun r h1 => ?_, fun r h1 h2 => ?_, fun r h1 k0 h2 => ?_⟩, ⟨fun j hj => ?_, fun j h1 h2 => ?_⟩, fun p hp => ?_, fun k0 hk => ?_, fun k0 h1 h2 => ?_⟩
  · rw [k 126 (by decide)]; exact a1
  · rw [k 126 (by decide)]; exact a2
  · rw [k 126 (by decide)]; exact a3
  · rw [k 126 (by decide)]; exact a4
  · rw [k 127 (by decide)]; exact b1 r h1
  · rw [k 127 (by decide)]; exact b2 r h1 h2
  · rw [k 128 (by decide)]; exact b3 r h1 k0 h2
  · rw [k 130 (by decide), k 131 (by decide), k 132 (by decide), k 133 (by decide)]; exact c1 j hj
  · rw [k 130 (by decide), k 131 (by decide), k 132 (by decide), k 133 (by decide)]; exact c2 j h1 h2
  · show _ = zn (if p = q then v else yd_c Y p)
    by_cases g : p = q
    · rw [if_pos g, g, wI_eq]
    · rw [if_neg g, wI_ne hA (Or.inr g)]; exact d1 p hp
  · rw [k 135 (by decide), k 136 (by decide), k 137 (by decide)]; exact e1 k0 hk
  · rw [k 136 (by decide), k 137 (by decide)]; exact e2 k0 h1 h2
end SecU
