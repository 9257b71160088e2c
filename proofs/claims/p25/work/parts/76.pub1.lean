/-! the class's calls, asked in their ranges -/
section Pub1
variable {G : gS} {ad : Nat → Nat} {M : mS} {Y : aY} {P : aP} {T : Nat → Nat} {tl b : Nat} {ea : Int32}
theorem p_stone (hS : Sh G ad) (hc : CA ad M Y P T tl ea) {c r : Nat} (k1 : c < 64) (k3 : r < 64) : m_X9_stone G M (ad 0) (zn c) (zn r) = some (M, zn (yd_c Y (64 * r + c))) := by
  refine cl_eq ?_
  unfold m_X9_stone
  rw [c_isStone_t (zn_in k1 (by decide)) (zn_in k3 (by decide))]
  refine c_cl (c_some (c_f (by decide) (c_rf (sh_x2 hS) ?_)))
  rw [zrc, c_colourAt (sh_Y21 hS) hc.1.1 (show 64 * r + c < 4096 by omega)]
  exact c_cl (c_some (c_some ⟨rfl, rfl⟩))
theorem p_colour (hS : Sh G ad) (hc : CA ad M Y P T tl ea) {c : Nat} (k1 : c < 6) : m_X9_colour G M (ad 0) (zn c) = some (M, zn (cn (yd_c Y) c 4096)) := by
  have h : vp_in (zn c) 6 := zn_in k1 (by decide)
  refine cl_eq ?_
  unfold m_X9_colour
  rw [c_isColour_t h]
  refine c_cl (c_some (c_f (by decide) (c_rf (sh_x2 hS) (c_rf (sh_Y21 hS).2.2.1 ?_))))
  rw [(sh_Y21 hS).2.2.2.2.2.2.2.1]
  refine c_ix h (c_some ⟨rfl, ?_⟩)
  rw [zn_nat (by omega), hc.1.1.2.2 _ k1]
theorem p_row (hS : Sh G ad) (hc : CA ad M Y P T tl ea) {c : Nat} (k1 : c < 64) : m_X9_row G M (ad 0) (zn c) = some (M, zn (nz (yd_c Y) (64 * c) 64)) := by
  have h : vp_in (zn c) 64 := zn_in k1 (by decide)
  refine cl_eq ?_
  unfold m_X9_row
  rw [c_isLine_t h]
  refine c_cl (c_some (c_f (by decide) (c_rf (sh_x2 hS) (c_rf (sh_Y21 hS).2.1 ?_))))
  rw [(sh_Y21 hS).2.2.2.2.2.2.1]
  refine c_ix h (c_some ⟨rfl, ?_⟩)
  rw [zn_nat (by omega), hc.1.1.2.1 _ k1]
theorem p_turn (hS : Sh G ad) (hvP : vP (yd_n Y) P) (hc : CA ad M Y P T tl ea) {r c : Nat} (k1 : r < pg_r P) (k3 : c < 6) : m_X9_turn G M (ad 0) (zn r) (zn c) = some (M, zn (pg_t P r (c % pg_z P r))) := by
  have h5 := hvP.1
  refine cl_eq ?_
  unfold m_X9_turn
  refine c_f (zn_nn (by omega)) (c_rf (sh_x1 hS) ?_)
  rw [hc.2.1.1.1, c_isColour_t (zn_in k3 (by decide))]
  refine c_f (by rw [zn_le (by omega) (by omega)]; omega) (c_cl (c_some (c_f (by decide) (c_rf (sh_x1 hS) ?_))))
  rw [c_turn (sh_P3 hS) hvP hc.2.1 k1 (c := c) (by omega)]
  exact c_cl (c_some (c_some ⟨rfl, rfl⟩))
theorem p_mean (hS : Sh G ad) (hv : vY b Y) (hc : CA ad M Y P T tl ea) : m_X9_mean G M (ad 0) = some (M, FP.ddiv (FP.i2d (zn (csum (yd_c Y) 6))) (4661225614328463360 : UInt64)) := by
  have hle : csum (yd_c Y) 6 ≤ 20480 := by
    have := totC_le hv.1 4096
    rw [tot_csum hv.1] at this
    omega
  unfold m_X9_mean
  obtain ⟨M1, r, e, h⟩ := c_rf (Q := fun M' r => M' = M ∧ r = FP.ddiv (FP.i2d (zn (csum (yd_c Y) 6))) (4661225614328463360 : UInt64)) (k := fun q1 => o_cl (m_X8_colourSum G M q1) (fun M2 r3 => o_ck ((FP.ddiv (FP.i2d r3) (4661225614328463360 : UInt64)) &&& 0x7fffffffffffffff ≤ 0x7ff0000000000000) (some (M2, (FP.ddiv (FP.i2d r3) (4661225614328463360 : UInt64)))))) (sh_x2 hS) (by
    rw [c_csum (sh_Y21 hS) hc.1.1]
    exact c_cl (c_some (c_ck (nan_le hle) (c_some ⟨rfl, rfl⟩))))
  rw [e, h.1, h.2]
theorem p_ant (hA : Inj ad) (hS : Sh G ad) (hv : vY b Y) (hb : b < 900000000) (hc : CA ad M Y P T tl ea) {i w : Nat} (k1 : i < yd_n Y) (k3 : w < 9) : p_cl (m_X9_ant G M (ad 0) (zn i) (zn w)) (fun M1 r => r = anAns (yd_a Y i) w ∧ CA ad M1 Y P T tl ea ∧ Fr (Bk ad 0 66) M M1) := by
  have hn := hv.2.1
  unfold m_X9_ant
  rw [c_isAnt_t hS hc.1.2.1.1 hn (zn_in k1 (by omega))]
  refine c_cl (c_some (c_f (by decide) (c_f (zn_nn (by omega)) (c_t (by rw [show (9 : Int32) = zn 9 from rfl, zn_lt (by omega) (by omega)]; exact k3) (c_rf (sh_x2 hS) (c_rf (sh_Y21 hS).2.2.2.1 ?_))))))
  rw [(sh_Y21 hS).2.2.2.2.2.2.2.2.1, zn_nat (by omega)]
  refine c_ix (zn_in (by omega) (by decide)) (c_rf ((sh_Y21 hS).2.2.2.2.1 i (by omega)) (c_clm (cA_ans hA ((sh_Y21 hS).2.2.2.2.2.2.2.2.2 i (by omega)) (hc.1.2.2 i k1) (hv.2.2 i k1).1 (by have := (hv.2.2 i k1).2; omega) k3) ?_))
  rintro M1 r ⟨rfl, g1, g2⟩
  exact c_some ⟨rfl, CA_ant0 hA hv hc k1 g1 g2⟩
theorem p_paint (hA : Inj ad) (hS : Sh G ad) (hv : vY b Y) (hc : CA ad M Y P T tl ea) {c r w : Nat} (k1 : c < 64) (k3 : r < 64) (k5 : w < 6) : p_cl (m_X9_paint G M (ad 0) (zn c) (zn r) (zn w)) (fun M1 x => x = zn (yd_c Y (64 * r + c)) ∧ CA ad M1 (aSet (64 * r + c) w Y) P T tl ea ∧ Fr (Bk ad 0 66) M M1) := by
  unfold m_X9_paint
  rw [c_isStone_t (zn_in k1 (by decide)) (zn_in k3 (by decide))]
  refine c_cl (c_some (c_f (by decide) ?_))
  rw [c_isColour_t (zn_in k5 (by decide))]
  refine c_cl (c_some (c_f (by decide) (c_bd (c_rf (sh_x2 hS) ?_))))
  rw [zrc, c_colourAt (sh_Y21 hS) hc.1.1 (show 64 * r + c < 4096 by omega)]
  refine c_cl (c_some (c_rf (sh_x2 hS) ?_))
  refine c_clm (cYc_set hA (sh_Y21 hS) hc.1.1 hv.1 (by omega) k5) ?_
  rintro M1 _ ⟨g1, g2⟩
  exact c_some ⟨rfl, CA_y (Y' := aSet (64 * r + c) w Y) hc ⟨g1, cYf_Fr hA hc.1.2.1 g2 (by omega), cYa_Fr hA hc.1.2.2 g2 (by omega)⟩ (fun k hk => Fr_I hA g2 (by omega)) (Fr_J hA g2 (by omega)), Fr_sub g2 (by omega) (by omega)⟩
theorem p_wash (hA : Inj ad) (hS : Sh G ad) (hv : vY b Y) (hc : CA ad M Y P T tl ea) {r t : Nat} (h3 : r ≤ t) (k3 : t < 64) : p_cl (m_X9_wash G M (ad 0) (zn r) (zn t)) (fun M1 x => x = zn (nz (yd_c Y) (64 * r) (64 * (t + 1 - r))) ∧ CA ad M1 (aWash r t Y) P T tl ea ∧ Fr (Bk ad 0 66) M M1) := by
  unfold m_X9_wash
  rw [c_isLine_t (zn_in (show r < 64 by omega) (by decide))]
  refine c_cl (c_some (c_f (by decide) ?_))
  rw [c_isLine_t (zn_in k3 (by decide))]
  refine c_cl (c_some (c_f (by decide) (c_t ((zn_le (by omega) (by omega)).mpr h3) (c_rf (sh_x2 hS) (c_clm (cY_wash hA (sh_Y21 hS) hv hc.1 h3 k3) ?_)))))
  rintro M1 x ⟨rfl, g1, g2⟩
  exact c_some ⟨rfl, CA_y hc g1 (fun k hk => Fr_I hA g2 (by omega)) (Fr_J hA g2 (by omega)), Fr_sub g2 (by omega) (by omega)⟩
theorem p_face (hA : Inj ad) (hS : Sh G ad) (hv : vY b Y) (hc : CA ad M Y P T tl ea) {i w : Nat} (k1 : i < yd_n Y) (k3 : w < 4) : p_cl (m_X9_face G M (ad 0) (zn i) (zn w)) (fun M1 x => x = zn (an_s (yd_a Y i)) ∧ CA ad M1 (aAnt i (anFace w (yd_a Y i)) Y) P T tl ea ∧ Fr (Bk ad 0 66) M M1) := by
  have hn := hv.2.1
  unfold m_X9_face
  rw [c_isAnt_t hS hc.1.2.1.1 hn (zn_in k1 (by omega))]
  refine c_cl (c_some (c_f (by decide) (c_f (zn_nn (by omega)) (c_t (by rw [show (4 : Int32) = zn 4 from rfl, zn_lt (by omega) (by omega)]; exact k3) (c_rf (sh_x2 hS) (c_rf (sh_Y21 hS).2.2.2.1 ?_))))))
  rw [(sh_Y21 hS).2.2.2.2.2.2.2.2.1, zn_nat (by omega)]
  refine c_ix (zn_in (by omega) (by decide)) (c_rf ((sh_Y21 hS).2.2.2.2.1 i (by omega)) (c_bd (c_rf (sh_x2 hS) (c_rf (sh_Y21 hS).2.2.2.1 ?_))))
  rw [(sh_Y21 hS).2.2.2.2.2.2.2.2.1]
  refine c_ix (zn_in (by omega) (by decide)) (c_rf ((sh_Y21 hS).2.2.2.2.1 i (by omega)) (c_clm (cA_face hA (hc.1.2.2 i k1)) ?_))
  rintro M1 _ ⟨g1, g2⟩
  exact c_some ⟨by rw [(hc.1.2.2 i k1).1.2.2.2.1], CA_ant hA hv hc k1 g1 g2⟩
theorem p_place (hA : Inj ad) (hS : Sh G ad) (hv : vY b Y) (hc : CA ad M Y P T tl ea) {i c r : Nat} (k1 : i < yd_n Y) (k3 : c < 64) (k5 : r < 64) : p_cl (m_X9_place G M (ad 0) (zn i) (zn c) (zn r)) (fun M1 x => x = zn (64 * an_y (yd_a Y i) + an_x (yd_a Y i)) ∧ CA ad M1 (aAnt i (anMove c r (yd_a Y i)) Y) P T tl ea ∧ Fr (Bk ad 0 66) M M1) := by
  have hn := hv.2.1
  unfold m_X9_place
  rw [c_isAnt_t hS hc.1.2.1.1 hn (zn_in k1 (by omega))]
  refine c_cl (c_some (c_f (by decide) ?_))
  rw [c_isStone_t (zn_in k3 (by decide)) (zn_in k5 (by decide))]
  refine c_cl (c_some (c_f (by decide) (c_rf (sh_x2 hS) (c_rf (sh_Y21 hS).2.2.2.1 ?_))))
  rw [(sh_Y21 hS).2.2.2.2.2.2.2.2.1, zn_nat (a := i) (by omega)]
  refine c_ix (zn_in (by omega) (by decide)) (c_rf ((sh_Y21 hS).2.2.2.2.1 i (by omega)) ?_)
  rw [c_under (hc.1.2.2 i k1).1]
  refine c_cl (c_some (c_rf (sh_x2 hS) (c_rf (sh_Y21 hS).2.2.2.1 ?_)))
  rw [(sh_Y21 hS).2.2.2.2.2.2.2.2.1]
  refine c_ix (zn_in (by omega) (by decide)) (c_rf ((sh_Y21 hS).2.2.2.2.1 i (by omega)) (c_clm (cA_move hA (hc.1.2.2 i k1)) ?_))
  rintro M1 _ ⟨g1, g2⟩
  exact c_some ⟨rfl, CA_ant hA hv hc k1 g1 g2⟩
theorem p_halt (hA : Inj ad) (hS : Sh G ad) (hv : vY b Y) (hc : CA ad M Y P T tl ea) {i : Nat} (k1 : i < yd_n Y) : p_cl (m_X9_halt G M (ad 0) (zn i)) (fun M1 x => x = zn (1 - an_w (yd_a Y i)) ∧ CA ad M1 (aAnt i (anWalk (1 - an_w (yd_a Y i)) (yd_a Y i)) Y) P T tl ea ∧ Fr (Bk ad 0 66) M M1) := by
  have hn := hv.2.1
  have hw := (hv.2.2 i k1).1.2.2.2.2.1
  have hix : vp_in (zn i) 6 := zn_in (by omega) (by decide)
  have k2 : i < 2147483648 := by omega
  unfold m_X9_halt
  rw [c_isAnt_t hS hc.1.2.1.1 hn (zn_in k1 (by omega))]
  refine c_cl (c_some (c_f (by decide) (c_rf (sh_x2 hS) (c_rf (sh_Y21 hS).2.2.2.1 ?_))))
  rw [(sh_Y21 hS).2.2.2.2.2.2.2.2.1, zn_nat k2]
  refine c_ix hix (c_rf ((sh_Y21 hS).2.2.2.2.1 i (by omega)) (c_rf (sh_x2 hS) (c_rf (sh_Y21 hS).2.2.2.1 ?_)))
  rw [(sh_Y21 hS).2.2.2.2.2.2.2.2.1]
  refine c_ix hix (c_rf ((sh_Y21 hS).2.2.2.2.1 i (by omega)) ?_)
  obtain ⟨⟨h0, h1, h2, h3, h4, h5, h6, h8⟩, h7⟩ := hc.1.2.2 i k1
  have fin : ∀ w : Nat, w = 1 - an_w (yd_a Y i) → p_cl (m_X9_halt_47 G (ad 0) (zn i) M (ad (21 + 5 + 2 * i)) (zn w)) (fun M1 r => r = zn (1 - an_w (yd_a Y i)) ∧ CA ad M1 (aAnt i (anWalk (1 - an_w (yd_a Y i)) (yd_a Y i)) Y) P T tl ea ∧ Fr (Bk ad 0 66) M M1) := by
    intro w hww
    have hw01 : zn w = 0 ∨ zn w = 1 := by rcases (show w = 0 ∨ w = 1 by omega) with rfl | rfl; exact Or.inl rfl; exact Or.inr rfl
    have hne : ad (21 + 5 + 2 * i + 1) ≠ ad (21 + 5 + 2 * i) := ad_ne hA (by omega)
    have ev : mI (wI M (ad (21 + 5 + 2 * i)) 4 (zn w)) (ad (21 + 5 + 2 * i)) 4 = zn w := by rw [mI_wI, if_pos rfl, upd_at, if_pos rfl]
    unfold m_X9_halt_47
    refine c_ck hw01 (c_wI (c_rf (sh_x2 hS) (c_rf (sh_Y21 hS).2.2.2.1 ?_)))
    rw [(sh_Y21 hS).2.2.2.2.2.2.2.2.1, zn_nat k2]
    refine c_ix hix (c_rf ((sh_Y21 hS).2.2.2.2.1 i (by omega)) ?_)
    rw [ev]
    refine c_ck hw01 (c_some ⟨by rw [hww], CA_ant hA hv hc k1 ?_ (Fr_wI Fr_rf (Bk_in (by omega) (by omega)))⟩)
    unfold cA cA0
    simp only [mI_wI, upd_at, hne, reduceIte, Nat.reduceEqDiff]
    exact ⟨⟨h0, h1, h2, h3, by rw [hww]; rfl, h5, h6, h8⟩, h7⟩
  rw [h4]
  refine c_if (fun q => ?_) (fun q => ?_)
  · refine fin 1 ?_
    rw [show (0 : Int32) = zn 0 from rfl, zn_inj (by omega) (by omega)] at q
    omega
  · refine fin 0 ?_
    rw [show (0 : Int32) = zn 0 from rfl, zn_inj (by omega) (by omega)] at q
    omega
theorem p_pass (hA : Inj ad) (hS : Sh G ad) (hv : vY b Y) (hb : b < 800000000) (hr : vR P Y) (hvP : vP (yd_n Y) P) (hc : CA ad M Y P T tl ea) {t : Nat} (k1 : 1 ≤ t) (k2 : t ≤ 1000) : p_cl (m_X9_pass G M (ad 0) (zn t)) (fun M1 x => x = zn (dk (yd_c (aSteps P Y t))) - zn (dk (yd_c Y)) ∧ CA ad M1 (aSteps P Y t) P T tl ea ∧ Fr (Bk ad 0 66) M M1) := by
  have e1000 : (1000 : Int32) = zn 1000 := rfl
  unfold m_X9_pass
  refine c_f (by rw [show (1 : Int32) = zn 1 from rfl, zn_lt (by omega) (by omega)]; omega) (c_t (by rw [e1000, zn_le (by omega) (by omega)]; exact k2) (c_rf (sh_x2 hS) ?_))
  rw [c_dark (sh_Y21 hS) hc.1.1]
  refine c_cl (c_some (c_rf (sh_x5 hS) (c_rf (sh_x2 hS) (c_clm (c_steps hA (sh_T hS) (sh_Y21 hS) (sh_R hS) (sh_P3 hS) (by omega) (by omega) hv hr hvP (t := t) (by omega) (by omega) hc.1 hc.2.1) ?_))))
  rintro M1 _ ⟨g1, g2, g3⟩
  refine c_rf (sh_x2 hS) ?_
  rw [c_dark (sh_Y21 hS) g1.1]
  exact c_cl (c_some (c_some ⟨rfl, CA_own hA hc g1 g3, SB_0 g3 (by omega)⟩))
theorem p_foresee (hA : Inj ad) (hS : Sh G ad) (hv : vY b Y) (hb : b < 800000000) (hr : vR P Y) (hvP : vP (yd_n Y) P) (hc : CA ad M Y P T tl ea) {t w : Nat} (k1 : 1 ≤ t) (k2 : t ≤ 1000) (k5 : 4 ≤ w) (k4 : w ≤ 9) : p_cl (m_X9_foresee G M (ad 0) (zn t) (zn w)) (fun M1 x => x = zn (aTot (aSteps P Y t) w) ∧ CA ad M1 Y P T tl ea ∧ Fr (Bk ad 0 66) M M1) := by
  have hn := hv.2.1
  have e1000 : (1000 : Int32) = zn 1000 := rfl
  have hsv := aSteps_v hvP hv hr t
  unfold m_X9_foresee
  refine c_f (by rw [show (1 : Int32) = zn 1 from rfl, zn_lt (by omega) (by omega)]; omega) (c_t (by rw [e1000, zn_le (by omega) (by omega)]; exact k2) (c_f (by rw [show (4 : Int32) = zn 4 from rfl, zn_lt (by omega) (by omega)]; omega) (c_t (by rw [show (9 : Int32) = zn 9 from rfl, zn_le (by omega) (by omega)]; exact k4) (c_rf (sh_x3 hS) (c_rf (sh_x2 hS) (c_clm (c_try hA hS hv hc) ?_))))))
  rintro M1 _ ⟨g1, g2, g3⟩
  refine c_rf (sh_x5 hS) (c_rf (sh_x3 hS) (c_clm (c_steps hA (sh_T hS) (sh_Y38 hS) (sh_R hS) (sh_P3 hS) (by omega) (by omega) hv hr hvP (t := t) (by omega) (by omega) g1 g2.2.1) ?_))
  rintro M2 _ ⟨g4, g5, g6⟩
  refine c_rf (sh_x3 hS) ?_
  rw [c_total (sh_Y38 hS) hsv.1 g4 k5 k4]
  exact c_cl (c_some (c_some ⟨rfl, CA_trial hA hn g2 g6, SB_0 (Fr_tr g3 g6) (by omega)⟩))
theorem p_trim (hA : Inj ad) (hS : Sh G ad) (hn : yd_n Y ≤ 6) (hc : CA ad M Y P T tl ea) {t : Nat} (ht : t ≤ tl) (htl : tl ≤ 2000) : p_cl (m_X9_trim G M (ad 0) (zn t)) (fun M1 _ => CA ad M1 Y P T t ea ∧ Fr (Bk ad 0 66) M M1) := by
  unfold m_X9_trim
  refine c_f (zn_nn (by omega)) (c_rf (sh_x0 hS) ?_)
  rw [hc.2.2.1]
  refine c_t ((zn_le (by omega) (by omega)).mpr ht) (c_rf (sh_x0 hS) (c_wI (c_some ⟨?_, Fr_wI Fr_rf (Bk_in (by omega) (by omega))⟩)))
  have hF : Fr (Bk ad 1 2) M (wI M (ad 1) 1 (zn t)) := Fr_wI Fr_rf (Bk_in (by omega) (by omega))
  refine CA_T hc hn ⟨?_, fun k hk => ?_⟩ (fun k hk => Fr_I hA hF (by omega)) (Fr_J hA hF (by omega))
  · rw [mI_wI, if_pos rfl, upd_at, if_pos rfl]
  · rw [Fr_I hA hF (by omega)]
    exact hc.2.2.2.1 k (by omega)
theorem p_digest (hA : Inj ad) (hS : Sh G ad) (hv : vY b Y) (hb : b < 900000000) (hvP : vP (yd_n Y) P) (hc : CA ad M Y P T tl ea) : p_cl (m_X9_digest G M (ad 0)) (fun M' x => x = dgAll Y P tl ∧ CA ad M' Y P T tl ea ∧ Fr (Bk ad 0 66) M M') := c_dg hA hS hv hb hvP hc 11 0 fu (by omega) (by unfold fu; omega)
end Pub1
