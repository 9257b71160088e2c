/-! the loop over orders -/
section Ords
variable {D : va_G} {G G1 : gS} {M : mS} {rl : Nat → Nat} {o a v cap c d x y n j k : Nat} {S : sA} {L : List Nat} {b u : uS} {post : gS → mS → Nat → Prop} {g : Nat → Nat} {kb : uS → gS → mS → Nat → Int32 → Int32 → Prop}
/-- an order in the making: row x, its first m places are g -/
def OZ (D : va_G) (G : gS) (M : mS) (rl : Nat → Nat) (o : Nat) (S : sA) (j x m : Nat) (g : Nat → Nat) (a v cap : Nat) (L : List Nat) : Prop := (SM G M rl o S (pzD D (zR D) j) (zQ D) (yzD D (zN D) (zPn D)) ∧ TR G M rl x 6 m g) ∧ TB G M rl 20000 a v cap L
def HKo (D : va_G) (o a c d : Nat) (L : List Nat) (j k : Nat) (kb : uS → gS → mS → Nat → Int32 → Int32 → Prop) : Prop := ∀ u' G' M' rl' S' v' cap', SM G' M' rl' o S' (pzD D (zR D) (j + 1)) (zQ D) (yzD D (zN D) (zPn D)) → TB G' M' rl' 20000 a v' cap' ((((L ++ txH (zO D (k + 1))) ++ sTx 35) ++ txS (zO D (k + 1))) ++ sTx 27) → UB (c + 34) (d + 4100) u' cap' ((((L ++ txH (zO D (k + 1))) ++ sTx 35) ++ txS (zO D (k + 1))) ++ sTx 27).length → kb u' G' M' o (zn (zN D)) (zn k)
theorem SGbo (hj : j ≤ 5) : SGb (pzD D (zR D) j) (yd_n (yzD D (zN D) (zPn D))) := SGbz zR_b.2 zN_b.2 hj
theorem OZ_w {m : Nat} {g g' : Nat → Nat} {cc : Int32} {i : Nat} (hj : j ≤ 5) (h : OZ D G M rl o S j x m g a v cap L) (hw : cc = zn (g' i)) (hg : ∀ t, t < m → t ≠ i → g' t = g t) : OZ D G (wI M x i cc) rl o S j x m g' a v cap L := by
  obtain ⟨⟨h1, h2⟩, h3⟩ := h
  have x0 : rl x = 0 := h2.1.2.2.1
  exact ⟨⟨SM_tw (SGbo hj) h1 (fun z => by unfold Si at z; omega), TR_w2 h2 hw hg⟩, TB_w h3 (by omega) (by omega)⟩
theorem OZ_p {m : Nat} {cc : Int32} (hj : j ≤ 5) (h : OZ D G M rl o S j x m g a v cap L) (hw : cc = zn (g m)) : OZ D G (wI M x m cc) rl o S j x (m + 1) g a v cap L := by
  obtain ⟨⟨h1, h2⟩, h3⟩ := h
  have x0 : rl x = 0 := h2.1.2.2.1
  exact ⟨⟨SM_tw (SGbo hj) h1 (fun z => by unfold Si at z; omega), TR_w h2 hw⟩, TB_w h3 (by omega) (by omega)⟩
theorem OZ_n {m : Nat} (h : OZ D G M rl o S j x m g a v cap L) : gN G x = 6 := h.1.2.1.2.2.2
theorem OZ_v {m t : Nat} (h : OZ D G M rl o S j x m g a v cap L) (ht : t < m) : mI M x t = zn (g t) := h.1.2.2 t ht
theorem UB_he {c1 cap1 len1 len : Nat} {u1 : uS} (h0 : UB c d u cap len) (h : UB c1 (d + 2 * cap) u1 cap1 len1) (hl : len1 ≤ 60) (hc : c ≤ c1) : UB (c1 + 2) (d + 1000) (uP u1 (2, 4 + len1)) cap len := by
  obtain ⟨g1, g2, g3, g4, g5⟩ := h0
  obtain ⟨k1, k2, k3, k4, k5⟩ := h
  exact ⟨by show u1.1 + 2 ≤ c1 + 2; omega, by show u1.2 + (4 + len1) ≤ d + 1000 + 2 * cap; omega, g3, g4, by omega⟩
theorem asc_app {A B : List Nat} (h : asc A) (h2 : asc B) : asc (A ++ B) := fun i hi => by
  by_cases e : i < A.length
  · rw [gd_l e]; exact h i e
  · rw [gd_r (by omega)]
    rw [List.length_append] at hi
    exact h2 _ (by omega)
theorem asc_0 : asc [] := fun i hi => absurd hi (Nat.not_lt_zero i)
theorem asc_l {i : Nat} (h : i < 36) : asc (sTx i) := (str_ok h).2.2
theorem sTx_len : ∀ i : Nat, i < 36 → (sTx i).length = sN i := by decide +kernel
theorem txH_ok {w : Nat → Nat} (h1 : w 1 < 100) (h2 : w 2 < 100) (h3 : w 0 = 1 → w 2 < 4) : asc (txH w) ∧ (txH w).length ≤ 40 := by
  unfold txH
  have l1 := dgL_le (m := w 1)
  have l2 := dgL_le (m := w 2)
  split
  · refine ⟨asc_app (asc_app (asc_app (asc_app asc_0 (asc_l (by decide))) (dgL_asc h1)) (asc_l (by decide))) (dgL_asc h2), ?_⟩
    rw [List.length_append, List.length_append, List.length_append, List.length_append, sTx_len 29 (by decide), sTx_len 30 (by decide), show sN 29 = 5 from rfl, show sN 30 = 4 from rfl, List.length_nil]
    omega
  · split
    · next e =>
      have h4 := h3 e
      refine ⟨asc_app (asc_app (asc_app (asc_app asc_0 (asc_l (by decide))) (dgL_asc h1)) (asc_l (by decide))) (asc_l (by omega)), ?_⟩
      have l3 : (sTx (4 + w 2)).length ≤ 5 := by
        rcases (show w 2 = 0 ∨ w 2 = 1 ∨ w 2 = 2 ∨ w 2 = 3 by omega) with z | z | z | z <;> rw [z] <;> decide +kernel
      rw [List.length_append, List.length_append, List.length_append, List.length_append, sTx_len 31 (by decide), sTx_len 21 (by decide), show sN 31 = 6 from rfl, show sN 21 = 1 from rfl, List.length_nil]
      omega
    · split
      · refine ⟨asc_app (asc_app asc_0 (asc_l (by decide))) (dgL_asc h1), ?_⟩
        rw [List.length_append, List.length_append, sTx_len 32 (by decide), show sN 32 = 6 from rfl, List.length_nil]
        omega
      · refine ⟨asc_app (asc_app asc_0 (asc_l (by decide))) (dgL_asc h1), ?_⟩
        rw [List.length_append, List.length_append, sTx_len 33 (by decide), show sN 33 = 6 from rfl, List.length_nil]
        omega
theorem txS_ok {w : Nat → Nat} (h1 : w 4 < 100) (h2 : w 5 < 100) : asc (txS w) ∧ (txS w).length ≤ 40 := by
  unfold txS
  have l1 := dgL_le (m := w 4)
  have l2 := dgL_le (m := w 5)
  split
  · refine ⟨asc_app (asc_app asc_0 (asc_l (by decide))) (dgL_asc h1), ?_⟩
    rw [List.length_append, List.length_append, sTx_len 8 (by decide), show sN 8 = 5 from rfl, List.length_nil]
    omega
  · split
    · refine ⟨asc_app (asc_app (asc_app (asc_app (asc_app (asc_app asc_0 (asc_l (by decide))) (dgL_asc h1)) (asc_l (by decide))) (dgL_asc h1)) (asc_l (by decide))) (dgL_asc h2), ?_⟩
      rw [List.length_append, List.length_append, List.length_append, List.length_append, List.length_append, List.length_append, sTx_len 9 (by decide), sTx_len 10 (by decide), sTx_len 11 (by decide), show sN 9 = 10 from rfl, show sN 10 = 1 from rfl, show sN 11 = 1 from rfl, List.length_nil]
      omega
    · split
      · refine ⟨asc_app (asc_app (asc_app (asc_app (asc_app (asc_app asc_0 (asc_l (by decide))) (dgL_asc h1)) (asc_l (by decide))) (dgL_asc h2)) (asc_l (by decide))) (dgL_asc h1), ?_⟩
        rw [List.length_append, List.length_append, List.length_append, List.length_append, List.length_append, List.length_append, sTx_len 12 (by decide), sTx_len 13 (by decide), sTx_len 14 (by decide), show sN 12 = 8 from rfl, show sN 13 = 1 from rfl, show sN 14 = 11 from rfl, List.length_nil]
        omega
      · split
        · refine ⟨asc_app (asc_app (asc_app (asc_app asc_0 (asc_l (by decide))) (dgL_asc h1)) (asc_l (by decide))) (dgL_asc h1), ?_⟩
          rw [List.length_append, List.length_append, List.length_append, List.length_append, sTx_len 15 (by decide), sTx_len 16 (by decide), show sN 15 = 8 from rfl, show sN 16 = 19 from rfl, List.length_nil]
          omega
        · refine ⟨asc_app (asc_app (asc_app (asc_app (asc_app asc_0 (asc_l (by decide))) (dgL_asc h1)) (asc_l (by decide))) (dgL_asc h2)) (asc_l (by decide)), ?_⟩
          rw [List.length_append, List.length_append, List.length_append, List.length_append, List.length_append, sTx_len 17 (by decide), sTx_len 18 (by decide), sTx_len 19 (by decide), show sN 17 = 4 from rfl, show sN 18 = 8 from rfl, show sN 19 = 5 from rfl, List.length_nil]
          omega
end Ords
