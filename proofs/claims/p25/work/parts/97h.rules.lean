/-! the list's text, as it grows -/
def txT (D : va_G) (r : Nat) (L : List Nat) : Nat → List Nat
  | 0 => L
  | k + 1 => (txT D r L k ++ sTx 21) ++ sTx (zT D r k)
def txR (D : va_G) : Nat → List Nat
  | 0 => []
  | r + 1 => txT D r ((txR D r ++ sTx 20) ++ dgL r) (zZ D r) ++ sTx 22
/-- an ant's line -/
def txA1 (D : va_G) (a : Nat) (L : List Nat) : List Nat := ((((((((((L ++ sTx 23) ++ dgL a) ++ sTx 24) ++ dgL (zAr D a)) ++ sTx 25) ++ dgL (zAx D a)) ++ sTx 21) ++ dgL (zAy D a)) ++ sTx 26) ++ sTx (4 + zAs D a)) ++ sTx 27
def txA (D : va_G) : Nat → List Nat
  | 0 => txR D (zR D)
  | a + 1 => txA1 D a (txA D a)
def txP1 (D : va_G) (k : Nat) (L : List Nat) : List Nat := ((((((L ++ sTx 28) ++ dgL (zPc D k)) ++ sTx 21) ++ dgL (zPr D k)) ++ sTx 21) ++ dgL (zPv D k)) ++ sTx 22
def txP (D : va_G) : Nat → List Nat
  | 0 => txA D (zN D)
  | j + 1 => txP1 D (zPn D - j) (txP D j)
/-- an order's head, its test -/
def txH (w : Nat → Nat) : List Nat := if w 0 = 0 then ((([] ++ sTx 29) ++ dgL (w 1)) ++ sTx 30) ++ dgL (w 2) else if w 0 = 1 then ((([] ++ sTx 31) ++ dgL (w 1)) ++ sTx 21) ++ sTx (4 + w 2) else if w 0 = 2 then ([] ++ sTx 32) ++ dgL (w 1) else ([] ++ sTx 33) ++ dgL (w 1)
def txS (w : Nat → Nat) : List Nat := if w 3 = 0 then ([] ++ sTx 8) ++ dgL (w 4) else if w 3 = 1 then ((((([] ++ sTx 9) ++ dgL (w 4)) ++ sTx 10) ++ dgL (w 4)) ++ sTx 11) ++ dgL (w 5) else if w 3 = 2 then ((((([] ++ sTx 12) ++ dgL (w 4)) ++ sTx 13) ++ dgL (w 5)) ++ sTx 14) ++ dgL (w 4) else if w 3 = 3 then ((([] ++ sTx 15) ++ dgL (w 4)) ++ sTx 16) ++ dgL (w 4) else (((([] ++ sTx 17) ++ dgL (w 4)) ++ sTx 18) ++ dgL (w 5)) ++ sTx 19
def txO (D : va_G) : Nat → List Nat
  | 0 => txP D (zPn D)
  | j + 1 => (((txO D j ++ txH (zQ D j)) ++ sTx 35) ++ txS (zQ D j)) ++ sTx 27
/-! the loop over rules -/
section Rules
variable {D : va_G} {G G1 : gS} {M : mS} {rl : Nat → Nat} {o a v cap c d x y n : Nat} {S : sA} {L : List Nat} {b u : uS} {post : gS → mS → Nat → Prop} {P : aP} {q : Nat → Nat → Nat} {Y : aY}
theorem TB_ad {r s t j : Nat} (h : TB G M rl r a v cap L) (hr : 20000 ≤ r) (ho : o ∈ gL G) (ho1 : rl o = 1) (hx : x ∈ gL G) (hx0 : rl x = 0) (hy : y ∉ gL G) (eL : gL G1 = gL G ++ [y]) (eN : gN G1 = va_up (gN G) y n) (eP : ∀ z, z ≠ y → gP G1 z = gP G z) : TB (gSt G1 o j y) (wZ M y) (rU (rU rl y s) x t) r a v cap L := by
  have nxy : x ≠ y := mem_ne hx hy
  have noy : o ≠ y := mem_ne ho hy
  have nox : o ≠ x := fun e => by rw [e, hx0] at ho1; omega
  exact TB_st (TB_ru (TB_wi h hy eL eN eP) (by rw [rU_ne nxy]; omega) (by rw [rU_ne nxy]; omega)) (by rw [rU_ne nox, rU_ne noy]; omega) (by rw [rU_ne nox, rU_ne noy]; omega)
theorem SGbz {r k m : Nat} (hr : r ≤ 3) (hm : m ≤ 5) (hk : k ≤ 5) : SGb (pzD D r k) m := ⟨by show r < 100; omega, by omega, by show k < 100; omega⟩
set_option maxRecDepth 20000 in
theorem r_66 {r : Nat} (hr : r < zR D) (hbb : 1000 ≤ b.1 ∧ 200000 ≤ b.2) (hcd : c ≤ 500 ∧ d ≤ 40000) (hM : SM G M rl o S (pzD D r 0) (zQ D) (yzD D 0 0)) (hR : TR G M rl x (zZ D r) 0 (zT D r)) (hT : TB G M rl 20000 a v cap L) (hU : UB c d u cap L.length) {v3 : Int32} {kb : uS → gS → mS → Nat → Int32 → Int32 → Prop} (hk : ∀ u' G' M' rl' S' v' cap', SM G' M' rl' o S' (pzD D (r + 1) 0) (zQ D) (yzD D 0 0) → TB G' M' rl' 20000 a v' cap' (txT D r L (zZ D r) ++ sTx 22) → UB (c + 16) (d + 4) u' cap' (txT D r L (zZ D r) ++ sTx 22).length → kb u' G' M' o v3 (zn (r + 1))) : nl_L_list_66 D b a kb post u G M o v3 (zn r) (clD D (1 + r)) x (0 : Int32) := by
  have hR3 := zR_b (D := D)
  have hz := zZ_b (D := D) (r := r)
  have hb : SGb (pzD D r 0) (yd_n (yzD D 0 0)) := SGbz (by omega) (Nat.zero_le _) (Nat.zero_le _)
  obtain ⟨b1, b2⟩ := hbb
  refine ⟨fun m u1 G1 M1 w2 w3 w4 w5 w6 w7 => o = w2 ∧ v3 = w3 ∧ zn r = w4 ∧ clD D (1 + r) = w5 ∧ x = w6 ∧ ∃ k rl1 v1 cap1, m + k = zZ D r ∧ zn k = w7 ∧ SM G1 M1 rl1 o S (pzD D r 0) (zQ D) (yzD D 0 0) ∧ TR G1 M1 rl1 x (zZ D r) k (zT D r) ∧ TB G1 M1 rl1 20000 a v1 cap1 (txT D r L k) ∧ UB (c + 2 * k) d u1 cap1 (txT D r L k).length, zZ D r, ⟨rfl, rfl, rfl, rfl, rfl, 0, rl, v, cap, Nat.add_zero _, rfl, hM, hR, hT, hU⟩, ?_⟩
  rintro m u1 G1 M1 w2 w3 w4 w5 w6 w7 ⟨rfl, rfl, rfl, rfl, rfl, k, rl1, v1, cap1, hm, rfl, hM1, hR1, hT1, hU1⟩
  have hN : gN G1 x = zZ D r := hR1.1.2.2.2
  have x0 : rl1 x = 0 := hR1.1.2.2.1
  have nsx : ¬ Si rl1 x := fun z => by unfold Si at z; omega
  unfold nb_L_list_66
  rw [hN]
  by_cases e : k = zZ D r
  · rw [e] at hR1 hT1 hU1 ⊢
    refine i_t ((zn_le (by omega) (by omega)).mpr (Nat.le_refl _)) ?_
    refine a_lit (I := fun G M rl => SM G M rl o S (pzD D r 0) (zQ D) (yzD D 0 0) ∧ TR G M rl x (zZ D r) (zZ D r) (zT D r)) (KS_and (KS_SM hb (by decide)) (KS_TR (by decide))) ⟨hM1, hR1⟩ hT1 hU1 (n := 22) rfl (by decide) (by decide) ⟨by omega, by omega⟩ (by omega) (fun u2 G2 M2 rl2 v2 cap2 hI hT2 hU2 => ?_)
    obtain ⟨hM2, hR2⟩ := hI
    have hU3 := UB_p (w := (1, r + 1)) hU2
    refine i_rf (SM_f hM2 (i := 0) (by decide)) ⟨(1, r + 1), UB_le hU3 (by dsimp only; omega) (by dsimp only; omega), s_with (n := r) (SM_n hM2).1 (by omega) (fun i hi => ⟨_, (SM_r hM2 hi).1⟩) (hM2.1.1.2 0 (by decide)).2.1 ⟨Nat.le_refl _, Nat.le_refl _⟩ (fun G3 y hy eP eL eK eN hold hnew => ?_)⟩
    refine i_sR (i_bde (zn_one r) (hk _ _ _ (rU (rU rl2 y 2) x (1000 + r)) _ v2 cap2 (SM_addR hb hM2 hR2 hy eP eL eK eN hold hnew rfl rfl (fun _ _ => rfl) rfl (fun _ _ _ _ => rfl) (fun _ _ => rfl) rfl) (TB_ad hT2 (by decide) (SM_io hM2).1 (SM_io hM2).2.2 hR2.1.1 hR2.1.2.2.1 hy eL eN eP) (UB_mono hU3 (by dsimp only; omega) (by dsimp only; omega))))
  · have hk2 : k < zZ D r := by omega
    refine i_f (by show ¬ zn (zZ D r) ≤ zn k; rw [zn_le (by omega) (by omega)]; omega) (i_ca0 (UB_le hU1 (by omega) (by omega)) (s_below (n := 4) rfl (by decide) (by decide) ?_))
    refine i_ix (by rw [hN]; exact zn_in hk2 (by omega)) ?_
    rw [zn_nat (by omega)]
    refine i_wI ?_
    have hR2 : TR G1 (wI M1 x k (zn (zT D r k))) rl1 x (zZ D r) (k + 1) (zT D r) := TR_w hR1 rfl
    have hM2 := SM_tw (j := k) (v := zn (zT D r k)) hb hM1 nsx
    have hT2 := TB_w (j := k) (w := zn (zT D r k)) hT1 (x := x) (by omega) (by omega)
    refine a_lit (I := fun G M rl => SM G M rl o S (pzD D r 0) (zQ D) (yzD D 0 0) ∧ TR G M rl x (zZ D r) (k + 1) (zT D r)) (KS_and (KS_SM hb (by decide)) (KS_TR (by decide))) ⟨hM2, hR2⟩ hT2 hU1 (n := 21) rfl (by decide) (by decide) ⟨by omega, by omega⟩ (by omega) (fun u3 G3 M3 rl3 v3 cap3 hI3 hT3 hU3 => ?_)
    have hx3 := hI3.2.2 k (Nat.lt_succ_self k)
    have ht := zT_b (D := D) (r := r) (k := k)
    refine i_ix (by rw [hI3.2.1.2.2.2]; exact zn_in hk2 (by omega)) ?_
    rw [hx3]
    refine i_ix (zn_in ht (by decide)) ?_
    refine a_lit (I := fun G M rl => SM G M rl o S (pzD D r 0) (zQ D) (yzD D 0 0) ∧ TR G M rl x (zZ D r) (k + 1) (zT D r)) (KS_and (KS_SM hb (by decide)) (KS_TR (by decide))) hI3 hT3 hU3 (n := zT D r k) (zn_nat (by omega)) (by omega) (by omega) ⟨by omega, by omega⟩ (by omega) (fun u4 G4 M4 rl4 v4 cap4 hI4 hT4 hU4 => ?_)
    exact i_bd ⟨m - 1, by omega, rfl, rfl, rfl, rfl, rfl, k + 1, rl4, v4, cap4, by omega, (zn_one k).symm, hI4.1, hI4.2, hT4, UB_mono hU4 (by omega) (Nat.le_refl _)⟩
set_option maxRecDepth 20000 in
theorem r_23 (hX : xL D ≤ 260) (hbb : 1000 ≤ b.1 ∧ 200000 ≤ b.2) (hM : SM G M rl o S (pzD D 0 0) (zQ D) (yzD D 0 0)) (hT : TB G M rl 20000 a v cap []) (hU : UB 70 4169 u cap 0) (hk : ∀ u' G' M' rl' S' v' cap', SM G' M' rl' o S' (pzD D (zR D) 0) (zQ D) (yzD D 0 0) → TB G' M' rl' 20000 a v' cap' (txR D (zR D)) → UB 130 4199 u' cap' (txR D (zR D)).length → nl_L_list_159 D b a post u' G' M' o (zn (zR D)) (zn (zN D)) (0 : Int32)) : nl_L_list_23 D b a post u G M o (zn (zR D)) (0 : Int32) := by
  have hR3 := zR_b (D := D)
  refine ⟨fun m u1 G1 M1 w2 w3 w4 => o = w2 ∧ zn (zR D) = w3 ∧ ∃ r rl1 S1 v1 cap1, m + r = zR D ∧ zn r = w4 ∧ SM G1 M1 rl1 o S1 (pzD D r 0) (zQ D) (yzD D 0 0) ∧ TB G1 M1 rl1 20000 a v1 cap1 (txR D r) ∧ UB (70 + 20 * r) (4169 + 10 * r) u1 cap1 (txR D r).length, zR D, ⟨rfl, rfl, 0, rl, S, v, cap, Nat.add_zero _, rfl, hM, hT, hU⟩, ?_⟩
  rintro m u1 G1 M1 w2 w3 w4 ⟨rfl, rfl, r, rl1, S1, v1, cap1, hm, rfl, hM1, hT1, hU1⟩
  have hb : SGb (pzD D r 0) (yd_n (yzD D 0 0)) := SGbz (by omega) (Nat.zero_le _) (Nat.zero_le _)
  have hu1 : uL u1 b := UB_le hU1 (by omega) (by omega)
  unfold nb_L_list_23
  by_cases e : r = zR D
  · rw [e] at hM1 hT1 hU1 ⊢
    refine i_t ((zn_le (by omega) (by omega)).mpr (Nat.le_refl _)) (i_ca0 hu1 (s_cellD hX (k := 4) rfl (by decide) (i_ca0 hu1 (s_below (n := 5) rfl (by decide) (by decide) (i_bde (zn_add 1 _) ?_)))))
    exact hk _ _ _ rl1 S1 v1 cap1 hM1 hT1 (UB_mono hU1 (by omega) (by omega))
  · have hr2 : r < zR D := by omega
    have hz := zZ_b (D := D) (r := r)
    refine i_f (by rw [zn_le (by omega) (by omega)]; omega) (i_ca0 hu1 (s_cellD hX (k := 1 + r) (zn_add 1 r) (by omega) (i_ca0 hu1 (s_below (n := 5) rfl (by decide) (by decide) ?_))))
    refine i_na (N := zZ D r) (zn_add 2 _) (by omega) (UB_le (UB_p (w := (1, zZ D r)) hU1) (by dsimp only; omega) (by dsimp only; omega)) (fun x hx => ?_)
    have hU2 := UB_p (w := (1, zZ D r)) hU1
    have hR2 : TR (gNw G1 x 12 (zZ D r)) (wZ M1 x) (rU rl1 x 0) x (zZ D r) 0 (zT D r) := TR_nw hx
    have hM2 := SM_nw (k := 12) (n := zZ D r) (r := 0) hb hM1 hx
    have hT2 := TB_nw (k := 12) (n := zZ D r) (s := 0) hT1 hx
    refine a_lit (I := fun G M rl => SM G M rl o S1 (pzD D r 0) (zQ D) (yzD D 0 0) ∧ TR G M rl x (zZ D r) 0 (zT D r)) (KS_and (KS_SM hb (by decide)) (KS_TR (by decide))) ⟨hM2, hR2⟩ hT2 hU2 (n := 20) rfl (by decide) (by decide) ⟨by dsimp only; omega, by dsimp only; omega⟩ (by dsimp only; omega) (fun u3 G3 M3 rl3 v3 cap3 hI3 hT3 hU3 => ?_)
    refine a_int (I := fun G M rl => SM G M rl o S1 (pzD D r 0) (zQ D) (yzD D 0 0) ∧ TR G M rl x (zZ D r) 0 (zT D r)) (KS_and (KS_SM hb (by decide)) (KS_TR (by decide))) hI3 hT3 hU3 (m := r) rfl (by omega) ⟨by dsimp only; omega, by dsimp only; omega⟩ (by dsimp only; omega) (fun u4 G4 M4 rl4 v4 cap4 hI4 hT4 hU4 => ?_)
    have hU4' := UB_mono (c' := 70 + 20 * r + 3) (d' := 4169 + 10 * r + 6) hU4 (by dsimp only; omega) (by dsimp only; omega)
    refine r_66 hr2 hbb ⟨by omega, by omega⟩ hI4.1 hI4.2 hT4 hU4' (fun u5 G5 M5 rl5 S5 v5 cap5 hM5 hT5 hU5 => ⟨m - 1, by omega, rfl, rfl, r + 1, rl5, S5, v5, cap5, by omega, rfl, hM5, hT5, UB_mono hU5 (by omega) (by omega)⟩)
end Rules
