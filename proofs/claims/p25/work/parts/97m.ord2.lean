/-! the loop over orders: an order is told -/
section Ords2
variable {D : va_G} {G G1 : gS} {M : mS} {rl : Nat → Nat} {o a v cap c d x y n j k : Nat} {S : sA} {L : List Nat} {b u : uS} {post : gS → mS → Nat → Prop} {kb : uS → gS → mS → Nat → Int32 → Int32 → Prop}
theorem zO_s : zO D k 1 < 100 ∧ zO D k 2 < 100 ∧ (zO D k 0 = 1 → zO D k 2 < 4) ∧ zO D k 3 < 5 ∧ zO D k 4 < 100 ∧ zO D k 5 < 100 := by
  have h0 := zO0_b (D := D) (k := k)
  have h1 := zO1_b (D := D) (k := k)
  have h2 := zO2_b (D := D) (k := k)
  have h3 := zO3_b (D := D) (k := k)
  have h4 := zO4_s (D := D) (k := k)
  have h5 := zO5_s (D := D) (k := k)
  have hn := zN_b (D := D)
  have hf := zOf_b (D := D) (k := k)
  show zO1 D k < 100 ∧ zO2 D k < 100 ∧ (zO0 D k = 1 → zO2 D k < 4) ∧ zO3 D k < 5 ∧ zO4 D k < 100 ∧ zO5 D k < 100
  by_cases e : zO0 D k = 0
  · have a1 := h1.1 e
    have a2 := h2.1 e
    exact ⟨by omega, by omega, fun z => by omega, h3, by omega, by omega⟩
  · have a1 := h1.2 e
    have a2 := h2.2 e
    exact ⟨by omega, by omega, fun _ => a2, h3, by omega, by omega⟩
set_option maxRecDepth 20000 in
theorem o_977 (hj : j ≤ 4) (hk : zOn D - j = k + 1) (hbb : 1000 ≤ b.1 ∧ 200000 ≤ b.2) (hcd : c ≤ 420 ∧ d ≤ 22000) (h : OZ D G M rl o S j x 6 (zO D (k + 1)) a v cap L) (hU : UB (c + 9) (d + 1010) u cap L.length) {q z : Nat} (hp : PS G M rl 20040 q z (txH (zO D (k + 1)))) (hkb : HKo D o a c d L j k kb) : nb_L_list_977 D b a kb post u G M o (zn (zN D)) (zn (k + 1)) x q := by
  obtain ⟨s1, s2, s3, s4, s5, s6⟩ := zO_s (D := D) (k := k + 1)
  have kO := zOn_b (D := D)
  obtain ⟨p1, p2⟩ := txH_ok s1 s2 s3
  obtain ⟨p3, p4⟩ := txS_ok s5 s6
  obtain ⟨b1, b2⟩ := hbb
  have hb := SGbo (D := D) (j := j) (by omega)
  have hst : KS 20000 (fun G M rl => SM G M rl o S (pzD D (zR D) j) (zQ D) (yzD D (zN D) (zPn D)) ∧ TR G M rl x 6 6 (zO D (k + 1))) := KS_and (KS_SM hb (by decide)) (KS_TR (by decide))
  unfold nb_L_list_977
  refine a_pool hst h.1 h.2 hU hp p1 p2 (by decide) (by decide) (by decide) ⟨by omega, by omega⟩ (by omega) (fun u1 G1 M1 rl1 v1 cap1 I1 T1 U1 => ?_)
  refine a_lit hst I1 T1 U1 (n := 35) rfl (by decide) (by decide) ⟨by omega, by omega⟩ (by omega) (fun u2 G2 M2 rl2 v2 cap2 I2 T2 U2 => ?_)
  have P2 := UB_p (w := (20, 3000)) U2
  refine ⟨(20, 3000), UB_le P2 (by dsimp only; omega) (by dsimp only; omega), t_test (I := fun G M rl => (SM G M rl o S (pzD D (zR D) j) (zQ D) (yzD D (zN D) (zPn D)) ∧ TR G M rl x 6 6 (zO D (k + 1))) ∧ TB G M rl 20000 a v2 cap2 ((L ++ txH (zO D (k + 1))) ++ sTx 35)) (KS_and (KS_and (KS_SM hb (by decide)) (KS_TR (by decide))) (KS_TB (by decide) (by decide) (by decide))) ⟨I2, T2⟩ (fun _ _ _ z => z.1.2) ⟨s4, s5, s6⟩ ⟨Nat.le_refl _, Nat.le_refl _⟩ (fun G3 M3 rl3 q3 z3 I3 h3 => ?_)⟩
  refine a_pool hst I3.1 I3.2 P2 h3 p3 p4 (by decide) (by decide) (by decide) ⟨by dsimp only; omega, by dsimp only; omega⟩ (by dsimp only; omega) (fun u4 G4 M4 rl4 v4 cap4 I4 T4 U4 => ?_)
  refine a_lit hst I4 T4 U4 (n := 27) rfl (by decide) (by decide) ⟨by dsimp only; omega, by dsimp only; omega⟩ (by dsimp only; omega) (fun u5 G5 M5 rl5 v5 cap5 I5 T5 U5 => ?_)
  obtain ⟨hM6, hR6⟩ := I5
  have P5 := UB_p (w := (1, j + 1)) U5
  refine i_rf (SM_f hM6 (i := 4) (by decide)) ⟨(1, j + 1), UB_le P5 (by dsimp only; omega) (by dsimp only; omega), s_with (n := j) (SM_n hM6).2.2.2.2 (by omega) (fun i hi => ⟨_, (SM_o hM6 (k := i) hi).1⟩) (hM6.1.1.2 4 (by decide)).2.1 ⟨Nat.le_refl _, Nat.le_refl _⟩ (fun Ga ya hya ePa eLa eKa eNa holda hnewa => ?_)⟩
  have hfin := SM_addO (P' := pzD D (zR D) (j + 1)) hb hM6 hR6 hya ePa eLa eKa eNa holda hnewa rfl rfl rfl (fun _ _ => rfl) (fun _ _ _ _ => rfl) (fun t _ => by
    show zO D (zOn D - j) t = _
    rw [hk])
  refine i_sR (i_bde zn_dn (hkb _ _ _ _ _ v5 cap5 hfin (TB_ad T5 (by decide) (SM_io hM6).1 (SM_io hM6).2.2 hR6.1.1 hR6.1.2.2.1 hya eLa eNa ePa) (UB_mono P5 (by dsimp only; omega) (by dsimp only; omega))))
set_option maxRecDepth 20000 in
theorem o_834 (hj : j ≤ 4) (hk : zOn D - j = k + 1) (hbb : 1000 ≤ b.1 ∧ 200000 ≤ b.2) (hcd : c ≤ 420 ∧ d ≤ 22000) (h : OZ D G M rl o S j x 6 (zO D (k + 1)) a v cap L) (hU : UB (c + 1) (d + 10) u cap L.length) (hkb : HKo D o a c d L j k kb) : nb_L_list_834 D b a kb post u G M o (zn (zN D)) (zn (k + 1)) (zn (zO0 D (k + 1))) x := by
  obtain ⟨s1, s2, s3, s4, s5, s6⟩ := zO_s (D := D) (k := k + 1)
  obtain ⟨p1, p2⟩ := txH_ok s1 s2 s3
  have h04 : zO D (k + 1) 0 < 4 := zO0_b (D := D) (k := k + 1)
  have h05 := zO0_b (D := D) (k := k + 1)
  have hb := SGbo (D := D) (j := j) (by omega)
  have hbb' := hbb
  obtain ⟨b1, b2⟩ := hbb
  have hlit : ∀ {k l : Nat}, k < 1000 → l < 1000 → ((zn k = zn l) ↔ k = l) := fun a c => zn_inj (by omega) (by omega)
  have hst : KS 20030 (fun G M rl => OZ D G M rl o S j x 6 (zO D (k + 1)) a v cap L) := KS_and (KS_and (KS_SM hb (by decide)) (KS_TR (by decide))) (KS_TB (by decide) (by decide) (by decide))
  have hcap : cap ≤ 2 * L.length + 16 ∧ L.length ≤ 40 * (c + 1) ∧ u.1 ≤ c + 1 ∧ u.2 ≤ d + 10 + 2 * cap := ⟨hU.2.2.2.1, hU.2.2.2.2, hU.1, hU.2.1⟩
  obtain ⟨k1, k2, k3, k4⟩ := hcap
  have U1 := UB_0 (c := c + 1) (d := d + 10 + 2 * cap) (u := u) k3 k4
  have i1 : ∀ {G M rl}, OZ D G M rl o S j x 6 (zO D (k + 1)) a v cap L → vp_in (1 : Int32) (gN G x) := fun h => by rw [OZ_n h]; exact vi_1 (by decide) (by decide)
  have i2 : ∀ {G M rl}, OZ D G M rl o S j x 6 (zO D (k + 1)) a v cap L → vp_in (2 : Int32) (gN G x) := fun h => by rw [OZ_n h]; exact vi_2 (by decide) (by decide)
  have v1 : ∀ {G M rl}, OZ D G M rl o S j x 6 (zO D (k + 1)) a v cap L → mI M x 1 = zn (zO D (k + 1) 1) := fun h => OZ_v h (by decide)
  have v2 : ∀ {G M rl}, OZ D G M rl o S j x 6 (zO D (k + 1)) a v cap L → mI M x 2 = zn (zO D (k + 1) 2) := fun h => OZ_v h (by decide)
  unfold nb_L_list_834
  rw [nat_1, nat_2]
  refine i_if (fun k0 => ?_) (fun k0 => i_if (fun k1 => ?_) (fun k1 => i_if (fun k2 => ?_) (fun k2 => ?_)))
  · have e0 : zO D (k + 1) 0 = 0 := (hlit (l := 0) (by omega) (by decide)).mp k0
    have eS : txH (zO D (k + 1)) = ((([] ++ sTx 29) ++ dgL (zO D (k + 1) 1)) ++ sTx 30) ++ dgL (zO D (k + 1) 2) := by unfold txH; rw [if_pos e0]
    refine b_new hst h ⟨by omega, by omega⟩ (fun q G1 M1 rl1 z1 I1 T1 => ?_)
    refine a_lit hst I1 T1 U1 (n := 29) rfl (by decide) (by decide) ⟨by omega, by omega⟩ (by omega) (fun u2 G2 M2 rl2 z2 cap2 I2 T2 U2 => i_ix (i1 I2) ?_)
    refine a_int hst I2 T2 U2 (m := zO D (k + 1) 1) (v1 I2) s1 ⟨by omega, by omega⟩ (by omega) (fun u3 G3 M3 rl3 z3 cap3 I3 T3 U3 => ?_)
    refine a_lit hst I3 T3 U3 (n := 30) rfl (by decide) (by decide) ⟨by omega, by omega⟩ (by omega) (fun u4 G4 M4 rl4 z4 cap4 I4 T4 U4 => i_ix (i2 I4) ?_)
    refine a_int hst I4 T4 U4 (m := zO D (k + 1) 2) (v2 I4) s2 ⟨by omega, by omega⟩ (by omega) (fun u5 G5 M5 rl5 z5 cap5 I5 T5 U5 => ?_)
    rw [← eS] at T5 U5
    exact b_str hst I5 T5 20040 (UB_en U5 (by omega) (by omega)) (fun G' M' rl' q w I' h' => o_977 hj hk hbb' hcd I' (UB_mono (UB_he hU U5 (by omega) (by omega)) (by omega) (by omega)) h' hkb)
  · have e0 : ¬ zO D (k + 1) 0 = 0 := fun z => k0 ((hlit (l := 0) (by omega) (by decide)).mpr z)
    have e1 : zO D (k + 1) 0 = 1 := (hlit (l := 1) (by omega) (by decide)).mp k1
    have s4' := s3 e1
    have eS : txH (zO D (k + 1)) = ((([] ++ sTx 31) ++ dgL (zO D (k + 1) 1)) ++ sTx 21) ++ sTx (4 + zO D (k + 1) 2) := by unfold txH; rw [if_neg e0, if_pos e1]
    refine b_new hst h ⟨by omega, by omega⟩ (fun q G1 M1 rl1 z1 I1 T1 => ?_)
    refine a_lit hst I1 T1 U1 (n := 31) rfl (by decide) (by decide) ⟨by omega, by omega⟩ (by omega) (fun u2 G2 M2 rl2 z2 cap2 I2 T2 U2 => i_ix (i1 I2) ?_)
    refine a_int hst I2 T2 U2 (m := zO D (k + 1) 1) (v1 I2) s1 ⟨by omega, by omega⟩ (by omega) (fun u3 G3 M3 rl3 z3 cap3 I3 T3 U3 => ?_)
    refine a_lit hst I3 T3 U3 (n := 21) rfl (by decide) (by decide) ⟨by omega, by omega⟩ (by omega) (fun u4 G4 M4 rl4 z4 cap4 I4 T4 U4 => i_ix (i2 I4) ?_)
    rw [v2 I4]
    refine i_ix (zn_in s4' (by decide)) (a_lit hst I4 T4 U4 (n := 4 + zO D (k + 1) 2) (by rw [zn_nat (by omega)]) (by omega) (by omega) ⟨by omega, by omega⟩ (by omega) (fun u5 G5 M5 rl5 z5 cap5 I5 T5 U5 => ?_))
    rw [← eS] at T5 U5
    exact b_str hst I5 T5 20040 (UB_en U5 (by omega) (by omega)) (fun G' M' rl' q w I' h' => o_977 hj hk hbb' hcd I' (UB_mono (UB_he hU U5 (by omega) (by omega)) (by omega) (by omega)) h' hkb)
  · have e0 : ¬ zO D (k + 1) 0 = 0 := fun z => k0 ((hlit (l := 0) (by omega) (by decide)).mpr z)
    have e1 : ¬ zO D (k + 1) 0 = 1 := fun z => k1 ((hlit (l := 1) (by omega) (by decide)).mpr z)
    have e2 : zO D (k + 1) 0 = 2 := (hlit (l := 2) (by omega) (by decide)).mp k2
    have eS : txH (zO D (k + 1)) = ([] ++ sTx 32) ++ dgL (zO D (k + 1) 1) := by unfold txH; rw [if_neg e0, if_neg e1, if_pos e2]
    refine b_new hst h ⟨by omega, by omega⟩ (fun q G1 M1 rl1 z1 I1 T1 => ?_)
    refine a_lit hst I1 T1 U1 (n := 32) rfl (by decide) (by decide) ⟨by omega, by omega⟩ (by omega) (fun u2 G2 M2 rl2 z2 cap2 I2 T2 U2 => i_ix (i1 I2) ?_)
    refine a_int hst I2 T2 U2 (m := zO D (k + 1) 1) (v1 I2) s1 ⟨by omega, by omega⟩ (by omega) (fun u3 G3 M3 rl3 z3 cap3 I3 T3 U3 => ?_)
    rw [← eS] at T3 U3
    exact b_str hst I3 T3 20040 (UB_en U3 (by omega) (by omega)) (fun G' M' rl' q w I' h' => o_977 hj hk hbb' hcd I' (UB_mono (UB_he hU U3 (by omega) (by omega)) (by omega) (by omega)) h' hkb)
  · have e0 : ¬ zO D (k + 1) 0 = 0 := fun z => k0 ((hlit (l := 0) (by omega) (by decide)).mpr z)
    have e1 : ¬ zO D (k + 1) 0 = 1 := fun z => k1 ((hlit (l := 1) (by omega) (by decide)).mpr z)
    have e2 : ¬ zO D (k + 1) 0 = 2 := fun z => k2 ((hlit (l := 2) (by omega) (by decide)).mpr z)
    have eS : txH (zO D (k + 1)) = ([] ++ sTx 33) ++ dgL (zO D (k + 1) 1) := by unfold txH; rw [if_neg e0, if_neg e1, if_neg e2]
    refine b_new hst h ⟨by omega, by omega⟩ (fun q G1 M1 rl1 z1 I1 T1 => ?_)
    refine a_lit hst I1 T1 U1 (n := 33) rfl (by decide) (by decide) ⟨by omega, by omega⟩ (by omega) (fun u2 G2 M2 rl2 z2 cap2 I2 T2 U2 => i_ix (i1 I2) ?_)
    refine a_int hst I2 T2 U2 (m := zO D (k + 1) 1) (v1 I2) s1 ⟨by omega, by omega⟩ (by omega) (fun u3 G3 M3 rl3 z3 cap3 I3 T3 U3 => ?_)
    rw [← eS] at T3 U3
    exact b_str hst I3 T3 20040 (UB_en U3 (by omega) (by omega)) (fun G' M' rl' q w I' h' => o_977 hj hk hbb' hcd I' (UB_mono (UB_he hU U3 (by omega) (by omega)) (by omega) (by omega)) h' hkb)
end Ords2
