/-! the calls by hand -/
section Hand
variable {G : gS} {ad : Nat → Nat} {M : mS} {Y : aY} {P : aP} {T : Nat → Nat} {tl b : Nat} {ea : Int32} {post : gS → mS → Prop}
theorem MA_ant (hA : Inj ad) (hm : MA ad M Y P T tl ea) {i : Nat} {M' : mS} {A : aA} (hr : an_r A = an_r (yd_a Y i)) (h1 : mA ad M' 80 i A) (hO : Oth ad M M' 80 i) (hF : Fr (Bk ad (80 + 3) (80 + 11)) M M') : MA ad M' (aAnt i A Y) P T tl ea := MA_y hm (mY_ant hA hm.1 hO h1 hF) rfl (fun k => aAnt_r hr) (by rw [Fr_I hA hF (by omega)]) (by rw [Fr_I hA hF (by omega)]) (Fr_I hA hF (by omega)) (fun k k1 k2 => Fr_I hA hF (by omega))
theorem ok_10 (hA : Inj ad) (hS : Sh G ad) (hv : vY b Y) (hr : vR P Y) (hc : CA ad M Y P T tl ea) (hm : MA ad M Y P T tl ea) (H : ∀ M' Y', vY b Y' → vR P Y' → yd_n Y' = yd_n Y → CA ad M' Y' P T tl ea → MA ad M' Y' P T tl ea → post G M') {c1 c2 c3 : Int32} : fc_10 G M (ad 0) (ad 70) (ad 105) c1 c2 c3 post := by
  unfold fc_10 m_L_paint
  by_cases h : vp_in c1 64 ∧ vp_in c2 64
  · obtain ⟨c, k1, k2, rfl⟩ := in_ex h.1
    obtain ⟨r, k3, k4, rfl⟩ := in_ex h.2
    by_cases h3 : vp_in c3 6
    · obtain ⟨w, k5, k6, rfl⟩ := in_ex h3
      refine fin_val (Y' := aSet (64 * r + c) w Y) (v := zn (yd_c Y (64 * r + c))) hA hS hv.2.1 hm ?_ ?_ (fun M' h1 h2 => H M' (aSet (64 * r + c) w Y) ⟨cSet_lt hv.1 k5, hv.2⟩ hr rfl h1 h2)
      · unfold t_X9_paint
        rw [c_isStone_t h.1 h.2]
        refine c_cl (c_some (c_f (by decide) ?_))
        rw [c_isColour_t h3]
        refine c_cl (c_some (c_f (by decide) (c_bd (c_rf (sh_x2 hS) ?_))))
        rw [zrc, c_colourAt (sh_Y21 hS) hc.1.1 (show 64 * r + c < 4096 by omega)]
        refine c_cl (c_some (c_rf (sh_x2 hS) ?_))
        refine c_clm (cYc_set hA (sh_Y21 hS) hc.1.1 hv.1 (by omega) k5) ?_
        rintro M1 _ ⟨g1, g2⟩
        exact c_some ⟨rfl, CA_y (Y' := aSet (64 * r + c) w Y) hc ⟨g1, cYf_Fr hA hc.1.2.1 g2 (by omega), cYa_Fr hA hc.1.2.2 g2 (by omega)⟩ (fun k hk => Fr_I hA g2 (by omega)) (Fr_J hA g2 (by omega)), Fr_sub g2 (by omega) (by omega)⟩
      · intro M2 hm2
        have e := m_tell (v := zn (yd_c Y (64 * r + c))) hA hm2
        unfold m_X12_paint
        refine c_wI ?_
        rw [m_isStone_t h.1 h.2]
        refine c_cl (c_some (c_f (by decide) ?_))
        rw [show (5 : Int32) = zn 6 - 1 from by decide, m_isInN_t (by decide) h3]
        refine c_cl (c_some (c_f (by decide) (c_rf (sh_m13 hS) (c_rf (s4 (sh_S80 hS)) ?_))))
        rw [zrc', sn1 (sh_S80 hS)]
        refine c_ix (zn_in (by omega) (by decide)) (c_bd (c_rf (sh_m13 hS) ?_))
        rw [zn_nat (by omega), e.2.2.1.1.1.1 _ (by omega)]
        refine c_clm (mYc_paint hA (sh_S80 hS) e.2.2.1.1.1 hv.1 (by omega) k5) ?_
        rintro M1 _ ⟨g1, g2⟩
        refine c_some ⟨by rw [Fr_I hA g2 (by omega)]; exact e.1, rfl, ?_, Fr_tr e.2.2.2 (Fr_sub g2 (by omega) (by omega))⟩
        exact MA_y (Y' := aSet (64 * r + c) w Y) e.2.2.1 ⟨g1, mYf_Fr hA e.2.2.1.1.2.1 g2 (by omega), mYa_Fr hA e.2.2.1.1.2.2 g2 (by omega)⟩ rfl (fun _ => rfl) (by rw [Fr_I hA g2 (by omega)]) (by rw [Fr_I hA g2 (by omega)]) (Fr_I hA g2 (by omega)) (fun k k1 k2 => Fr_I hA g2 (by omega))
    · refine fin_exc (E := "java/lang/IllegalArgumentException") (code := 2) hA hS hv.2.1 hm hc ?_ (fun _ => rfl) (by decide) ?_ (fun M' => H M' Y hv hr rfl)
      · unfold t_X9_paint
        rw [c_isStone_t h.1 h.2]
        refine c_cl (c_some (c_f (by decide) ?_))
        rw [c_isColour_f h3]
        exact c_cl (c_some (c_t rfl (c_some ⟨rfl, rfl⟩)))
      · unfold m_X12_paint
        refine c_wI ?_
        rw [m_isStone_t h.1 h.2]
        refine c_cl (c_some (c_f (by decide) ?_))
        rw [show (5 : Int32) = zn 6 - 1 from by decide, m_isInN_f (by decide) h3]
        exact c_cl (c_some (c_t rfl (c_cl (c_some (c_some rfl)))))
  · refine fin_exc (E := "java/lang/IndexOutOfBoundsException") (code := 1) hA hS hv.2.1 hm hc ?_ (fun _ => rfl) (by decide) ?_ (fun M' => H M' Y hv hr rfl)
    · unfold t_X9_paint
      rw [c_isStone_f h]
      exact c_cl (c_some (c_t rfl (c_some ⟨rfl, rfl⟩)))
    · unfold m_X12_paint
      refine c_wI ?_
      rw [m_isStone_f h]
      exact c_cl (c_some (c_t rfl (c_cl (c_some (c_some rfl)))))
theorem ok_11 (hA : Inj ad) (hS : Sh G ad) (hv : vY b Y) (hr : vR P Y) (hc : CA ad M Y P T tl ea) (hm : MA ad M Y P T tl ea) (H : ∀ M' Y', vY b Y' → vR P Y' → yd_n Y' = yd_n Y → CA ad M' Y' P T tl ea → MA ad M' Y' P T tl ea → post G M') {c1 c2 : Int32} : fc_11 G M (ad 0) (ad 70) (ad 105) c1 c2 post := by
  unfold fc_11 m_L_wash
  by_cases h : vp_in c1 64 ∧ vp_in c2 64
  · obtain ⟨r, k1, k2, rfl⟩ := in_ex h.1
    obtain ⟨t, k3, k4, rfl⟩ := in_ex h.2
    by_cases h3 : r ≤ t
    · refine fin_val (Y' := aWash r t Y) (v := zn (nz (yd_c Y) (64 * r) (64 * (t + 1 - r)))) hA hS hv.2.1 hm ?_ ?_ (fun M' h1 h2 => H M' (aWash r t Y) ⟨cWash_lt hv.1, hv.2⟩ hr rfl h1 h2)
      · unfold t_X9_wash
        rw [c_isLine_t h.1]
        refine c_cl (c_some (c_f (by decide) ?_))
        rw [c_isLine_t h.2]
        refine c_cl (c_some (c_f (by decide) (c_t ((zn_le k2 k4).mpr h3) (c_rf (sh_x2 hS) (c_clm (cY_wash hA (sh_Y21 hS) hv hc.1 h3 k3) ?_)))))
        rintro M1 x ⟨rfl, g1, g2⟩
        exact c_some ⟨rfl, CA_y hc g1 (fun k hk => Fr_I hA g2 (by omega)) (Fr_J hA g2 (by omega)), Fr_sub g2 (by omega) (by omega)⟩
      · intro M2 hm2
        have e := m_tell (v := zn (nz (yd_c Y) (64 * r) (64 * (t + 1 - r)))) hA hm2
        unfold m_X12_wash
        refine c_wI ?_
        rw [m_isStone_t h.1 h.2]
        refine c_cl (c_some (c_f (by decide) (c_t ((zn_le k2 k4).mpr h3) (c_rf (sh_m13 hS) (c_clm (mY_wash hA (sh_S80 hS) hv e.2.2.1.1 h3 k3) ?_)))))
        rintro M1 x ⟨rfl, g1, g2⟩
        refine c_some ⟨by rw [Fr_I hA g2 (by omega)]; exact e.1, rfl, ?_, Fr_tr e.2.2.2 (Fr_sub g2 (by omega) (by omega))⟩
        exact MA_y e.2.2.1 g1 rfl (fun _ => rfl) (by rw [Fr_I hA g2 (by omega)]) (by rw [Fr_I hA g2 (by omega)]) (Fr_I hA g2 (by omega)) (fun k k1 k2 => Fr_I hA g2 (by omega))
    · refine fin_exc (E := "java/lang/IllegalArgumentException") (code := 2) hA hS hv.2.1 hm hc ?_ (fun _ => rfl) (by decide) ?_ (fun M' => H M' Y hv hr rfl)
      · unfold t_X9_wash
        rw [c_isLine_t h.1]
        refine c_cl (c_some (c_f (by decide) ?_))
        rw [c_isLine_t h.2]
        exact c_cl (c_some (c_f (by decide) (c_f (fun q => h3 ((zn_le k2 k4).mp q)) (c_some ⟨rfl, rfl⟩))))
      · unfold m_X12_wash
        refine c_wI ?_
        rw [m_isStone_t h.1 h.2]
        exact c_cl (c_some (c_f (by decide) (c_f (fun q => h3 ((zn_le k2 k4).mp q)) (c_cl (c_some (c_some rfl))))))
  · refine fin_exc (E := "java/lang/IndexOutOfBoundsException") (code := 1) hA hS hv.2.1 hm hc ?_ (fun _ => rfl) (by decide) ?_ (fun M' => H M' Y hv hr rfl)
    · unfold t_X9_wash t_X9_wash_14
      by_cases h1 : vp_in c1 64
      · rw [c_isLine_t h1]
        refine c_cl (c_some (c_f (by decide) ?_))
        rw [c_isLine_f (fun q => h ⟨h1, q⟩)]
        exact c_cl (c_some (c_t rfl (c_some ⟨rfl, rfl⟩)))
      · rw [c_isLine_f h1]
        exact c_cl (c_some (c_t rfl (c_some ⟨rfl, rfl⟩)))
    · unfold m_X12_wash
      refine c_wI ?_
      rw [m_isStone_f h]
      exact c_cl (c_some (c_t rfl (c_cl (c_some (c_some rfl)))))
theorem ok_12 (hA : Inj ad) (hS : Sh G ad) (hv : vY b Y) (hr : vR P Y) (hc : CA ad M Y P T tl ea) (hm : MA ad M Y P T tl ea) (H : ∀ M' Y', vY b Y' → vR P Y' → yd_n Y' = yd_n Y → CA ad M' Y' P T tl ea → MA ad M' Y' P T tl ea → post G M') {c1 c2 : Int32} : fc_12 G M (ad 0) (ad 70) (ad 105) c1 c2 post := by
  have hn := hv.2.1
  unfold fc_12 m_L_face
  by_cases h : vp_in c1 (yd_n Y) ∧ vp_in c2 4
  · obtain ⟨i, k1, k2, rfl⟩ := in_ex h.1
    obtain ⟨w, k3, k4, rfl⟩ := in_ex h.2
    have hvi := hv.2.2 i k1
    refine fin_val (Y' := aAnt i (anFace w (yd_a Y i)) Y) (v := zn (an_s (yd_a Y i))) hA hS hn hm ?_ ?_ (fun M' h1 h2 => H M' _ (vY_ant hv (Nat.le_refl _) (vA_face hvi.1 k3) (Nat.zero_le _)) (vR_ant hr (hr i k1)) rfl h1 h2)
    · unfold t_X9_face
      rw [c_isAnt_t hS hc.1.2.1.1 hn h.1]
      refine c_cl (c_some (c_f (by decide) (c_f (zn_nn k4) (c_t (by rw [show (4 : Int32) = zn 4 from rfl, zn_lt (by omega) (by omega)]; exact k3) (c_rf (sh_x2 hS) (c_rf (sh_Y21 hS).2.2.2.1 ?_))))))
      rw [(sh_Y21 hS).2.2.2.2.2.2.2.2.1, zn_nat k2]
      refine c_ix (zn_in (by omega) (by decide)) (c_rf ((sh_Y21 hS).2.2.2.2.1 i (by omega)) (c_bd (c_rf (sh_x2 hS) (c_rf (sh_Y21 hS).2.2.2.1 ?_))))
      rw [(sh_Y21 hS).2.2.2.2.2.2.2.2.1]
      refine c_ix (zn_in (by omega) (by decide)) (c_rf ((sh_Y21 hS).2.2.2.2.1 i (by omega)) (c_clm (cA_face hA (hc.1.2.2 i k1)) ?_))
      rintro M1 _ ⟨g1, g2⟩
      exact c_some ⟨by rw [(hc.1.2.2 i k1).1.2.2.2.1], CA_ant hA hv hc k1 g1 g2⟩
    · intro M2 hm2
      have e := m_tell (v := zn (an_s (yd_a Y i))) hA hm2
      have s80 := sh_S80 hS
      have hix : vp_in (zn i) 6 := zn_in (by omega) (by decide)
      unfold m_X12_face
      refine c_wI ?_
      rw [m_isAnt_t hS e.2.2.1.2.1.1.2.1 hn h.1]
      refine c_cl (c_some (c_f (by decide) ?_))
      rw [show (3 : Int32) = zn 4 - 1 from by decide, m_isInN_t (by decide) h.2]
      refine c_cl (c_some (c_f (by decide) (c_rf (sh_m13 hS) (c_rf (s8 s80) (c_ix (by rw [sn5 s80]; exact hix) (c_bd (c_rf (sh_m13 hS) (c_rf (s8 s80) (c_ix (by rw [sn5 s80]; exact hix) (c_wI (c_rf (sh_m13 hS) ?_)))))))))))
      rw [zn_nat k2, (e.2.2.1.1.2.2 i k1).2.2.1]
      refine c_clm (mA_face hA s80 (by omega) (e.2.2.1.1.2.2 i k1)) ?_
      rintro M1 _ ⟨g1, g2, g3⟩
      exact c_some ⟨by rw [Fr_I hA g3 (by omega)]; exact e.1, rfl, MA_ant hA e.2.2.1 rfl g1 g2 g3, Fr_tr e.2.2.2 (Fr_sub g3 (by omega) (by omega))⟩
  · refine fin_exc (E := "java/lang/IndexOutOfBoundsException") (code := 1) hA hS hn hm hc ?_ (fun _ => rfl) (by decide) ?_ (fun M' => H M' Y hv hr rfl)
    · unfold t_X9_face t_X9_face_17
      by_cases h1 : vp_in c1 (yd_n Y)
      · rw [c_isAnt_t hS hc.1.2.1.1 hn h1]
        have h2 := in_not (n := 4) (by decide) (fun q => h ⟨h1, q⟩)
        refine c_cl (c_some (c_f (by decide) (c_if (fun q => c_some ⟨rfl, rfl⟩) (fun q => c_f ?_ (c_some ⟨rfl, rfl⟩)))))
        exact Int32.not_lt.mpr (h2.resolve_left q)
      · rw [c_isAnt_f hS hc.1.2.1.1 hn h1]
        exact c_cl (c_some (c_t rfl (c_some ⟨rfl, rfl⟩)))
    · have e := m_tell (v := 0) hA hm
      unfold m_X12_face m_X12_face_22
      refine c_wI ?_
      by_cases h1 : vp_in c1 (yd_n Y)
      · rw [m_isAnt_t hS e.2.2.1.2.1.1.2.1 hn h1]
        refine c_cl (c_some (c_f (by decide) ?_))
        rw [show (3 : Int32) = zn 4 - 1 from by decide, m_isInN_f (by decide) (fun q => h ⟨h1, q⟩)]
        exact c_cl (c_some (c_t rfl (c_cl (c_some (c_some rfl)))))
      · rw [m_isAnt_f hS e.2.2.1.2.1.1.2.1 hn h1]
        exact c_cl (c_some (c_t rfl (c_cl (c_some (c_some rfl)))))
theorem ok_14 (hA : Inj ad) (hS : Sh G ad) (hv : vY b Y) (hr : vR P Y) (hc : CA ad M Y P T tl ea) (hm : MA ad M Y P T tl ea) (H : ∀ M' Y', vY b Y' → vR P Y' → yd_n Y' = yd_n Y → CA ad M' Y' P T tl ea → MA ad M' Y' P T tl ea → post G M') {c1 c2 c3 : Int32} : fc_14 G M (ad 0) (ad 70) (ad 105) c1 c2 c3 post := by
  have hn := hv.2.1
  unfold fc_14 m_L_place
  by_cases h : vp_in c1 (yd_n Y) ∧ (vp_in c2 64 ∧ vp_in c3 64)
  · obtain ⟨i, k1, k2, rfl⟩ := in_ex h.1
    obtain ⟨c, k3, k4, rfl⟩ := in_ex h.2.1
    obtain ⟨r, k5, k6, rfl⟩ := in_ex h.2.2
    have hvi := hv.2.2 i k1
    refine fin_val (Y' := aAnt i (anMove c r (yd_a Y i)) Y) (v := zn (64 * an_y (yd_a Y i) + an_x (yd_a Y i))) hA hS hn hm ?_ ?_ (fun M' h1 h2 => H M' _ (vY_ant hv (Nat.le_refl _) (vA_move hvi.1 k3 k5) (Nat.zero_le _)) (vR_ant hr (hr i k1)) rfl h1 h2)
    · unfold t_X9_place
      rw [c_isAnt_t hS hc.1.2.1.1 hn h.1]
      refine c_cl (c_some (c_f (by decide) ?_))
      rw [c_isStone_t h.2.1 h.2.2]
      refine c_cl (c_some (c_f (by decide) (c_rf (sh_x2 hS) (c_rf (sh_Y21 hS).2.2.2.1 ?_))))
      rw [(sh_Y21 hS).2.2.2.2.2.2.2.2.1, zn_nat k2]
      refine c_ix (zn_in (by omega) (by decide)) (c_rf ((sh_Y21 hS).2.2.2.2.1 i (by omega)) ?_)
      rw [c_under (hc.1.2.2 i k1).1]
      refine c_cl (c_some (c_rf (sh_x2 hS) (c_rf (sh_Y21 hS).2.2.2.1 ?_)))
      rw [(sh_Y21 hS).2.2.2.2.2.2.2.2.1]
      refine c_ix (zn_in (by omega) (by decide)) (c_rf ((sh_Y21 hS).2.2.2.2.1 i (by omega)) (c_clm (cA_move hA (hc.1.2.2 i k1)) ?_))
      rintro M1 _ ⟨g1, g2⟩
      exact c_some ⟨rfl, CA_ant hA hv hc k1 g1 g2⟩
    · intro M2 hm2
      have e := m_tell (v := zn (64 * an_y (yd_a Y i) + an_x (yd_a Y i))) hA hm2
      have s80 := sh_S80 hS
      have hix : vp_in (zn i) 6 := zn_in (by omega) (by decide)
      unfold m_X12_place_
      refine c_wI ?_
      rw [m_isAnt_t hS e.2.2.1.2.1.1.2.1 hn h.1]
      refine c_cl (c_some (c_f (by decide) ?_))
      rw [m_isStone_t h.2.1 h.2.2]
      refine c_cl (c_some (c_f (by decide) (c_rf (sh_m13 hS) (c_rf (s7 s80) (c_ix (by rw [sn4 s80]; exact hix) (c_rf (sh_m13 hS) (c_rf (s6 s80) (c_ix (by rw [sn3 s80]; exact hix) (c_bd (c_rf (sh_m13 hS) (c_rf (s6 s80) (c_ix (by rw [sn3 s80]; exact hix) (c_wI (c_rf (sh_m13 hS) (c_rf (s7 s80) (c_ix (by rw [sn4 s80]; exact hix) (c_wI (c_rf (sh_m13 hS) ?_))))))))))))))))))
      rw [zn_nat k2, (e.2.2.1.1.2.2 i k1).1, (e.2.2.1.1.2.2 i k1).2.1, zrc']
      refine c_clm (mA_place hA s80 (by omega) (e.2.2.1.1.2.2 i k1)) ?_
      rintro M1 _ ⟨g1, g2, g3⟩
      exact c_some ⟨by rw [Fr_I hA g3 (by omega)]; exact e.1, rfl, MA_ant hA e.2.2.1 rfl g1 g2 g3, Fr_tr e.2.2.2 (Fr_sub g3 (by omega) (by omega))⟩
  · refine fin_exc (E := "java/lang/IndexOutOfBoundsException") (code := 1) hA hS hn hm hc ?_ (fun _ => rfl) (by decide) ?_ (fun M' => H M' Y hv hr rfl)
    · unfold t_X9_place t_X9_place_16
      by_cases h1 : vp_in c1 (yd_n Y)
      · rw [c_isAnt_t hS hc.1.2.1.1 hn h1]
        refine c_cl (c_some (c_f (by decide) ?_))
        rw [c_isStone_f (fun q => h ⟨h1, q⟩)]
        exact c_cl (c_some (c_t rfl (c_some ⟨rfl, rfl⟩)))
      · rw [c_isAnt_f hS hc.1.2.1.1 hn h1]
        exact c_cl (c_some (c_t rfl (c_some ⟨rfl, rfl⟩)))
    · have e := m_tell (v := 0) hA hm
      unfold m_X12_place_ m_X12_place__21
      refine c_wI ?_
      by_cases h1 : vp_in c1 (yd_n Y)
      · rw [m_isAnt_t hS e.2.2.1.2.1.1.2.1 hn h1]
        refine c_cl (c_some (c_f (by decide) ?_))
        rw [m_isStone_f (fun q => h ⟨h1, q⟩)]
        exact c_cl (c_some (c_t rfl (c_cl (c_some (c_some rfl)))))
      · rw [m_isAnt_f hS e.2.2.1.2.1.1.2.1 hn h1]
        exact c_cl (c_some (c_t rfl (c_cl (c_some (c_some rfl)))))
theorem ok_13 (hA : Inj ad) (hS : Sh G ad) (hv : vY b Y) (hr : vR P Y) (hc : CA ad M Y P T tl ea) (hm : MA ad M Y P T tl ea) (H : ∀ M' Y', vY b Y' → vR P Y' → yd_n Y' = yd_n Y → CA ad M' Y' P T tl ea → MA ad M' Y' P T tl ea → post G M') {c1 : Int32} : fc_13 G M (ad 0) (ad 70) (ad 105) c1 post := by
  have hn := hv.2.1
  unfold fc_13 m_L_halt
  by_cases h : vp_in c1 (yd_n Y)
  · obtain ⟨i, k1, k2, rfl⟩ := in_ex h
    have hvi := hv.2.2 i k1
    have hw := hvi.1.2.2.2.2.1
    have s80 := sh_S80 hS
    have hix : vp_in (zn i) 6 := zn_in (by omega) (by decide)
    -- the class
    have hx : p_cl (t_X9_halt G M (ad 0) (zn i)) (fun M1 r => r = .inl (zn (1 - an_w (yd_a Y i))) ∧ CA ad M1 (aAnt i (anWalk (1 - an_w (yd_a Y i)) (yd_a Y i)) Y) P T tl ea ∧ Fr (Bk ad 0 70) M M1) := by
      unfold t_X9_halt
      rw [c_isAnt_t hS hc.1.2.1.1 hn h]
      refine c_cl (c_some (c_f (by decide) (c_rf (sh_x2 hS) (c_rf (sh_Y21 hS).2.2.2.1 ?_))))
      rw [(sh_Y21 hS).2.2.2.2.2.2.2.2.1, zn_nat k2]
      refine c_ix hix (c_rf ((sh_Y21 hS).2.2.2.2.1 i (by omega)) (c_rf (sh_x2 hS) (c_rf (sh_Y21 hS).2.2.2.1 ?_)))
      rw [(sh_Y21 hS).2.2.2.2.2.2.2.2.1]
      refine c_ix hix (c_rf ((sh_Y21 hS).2.2.2.2.1 i (by omega)) ?_)
      obtain ⟨⟨h0, h1, h2, h3, h4, h5, h6, h8⟩, h7⟩ := hc.1.2.2 i k1
      have fin : ∀ w : Nat, w = 1 - an_w (yd_a Y i) → p_cl (t_X9_halt_47 G (ad 0) (zn i) M (ad (21 + 5 + 2 * i)) (zn w)) (fun M1 r => r = .inl (zn (1 - an_w (yd_a Y i))) ∧ CA ad M1 (aAnt i (anWalk (1 - an_w (yd_a Y i)) (yd_a Y i)) Y) P T tl ea ∧ Fr (Bk ad 0 70) M M1) := by
        intro w hww
        have hw01 : zn w = 0 ∨ zn w = 1 := by rcases (show w = 0 ∨ w = 1 by omega) with rfl | rfl; exact Or.inl rfl; exact Or.inr rfl
        have hne : ad (21 + 5 + 2 * i + 1) ≠ ad (21 + 5 + 2 * i) := ad_ne hA (by omega)
        have ev : mI (wI M (ad (21 + 5 + 2 * i)) 4 (zn w)) (ad (21 + 5 + 2 * i)) 4 = zn w := by rw [mI_wI, if_pos rfl, upd_at, if_pos rfl]
        unfold t_X9_halt_47
        refine c_ck hw01 (c_wI (c_rf (sh_x2 hS) (c_rf (sh_Y21 hS).2.2.2.1 ?_)))
        rw [(sh_Y21 hS).2.2.2.2.2.2.2.2.1, zn_nat k2]
        refine c_ix hix (c_rf ((sh_Y21 hS).2.2.2.2.1 i (by omega)) ?_)
        rw [ev]
        refine c_ck hw01 (c_some ⟨by rw [hww], CA_ant hA hv hc k1 ?_ (Fr_wI Fr_rf (Bk_in (by omega) (by omega)))⟩)
        unfold cA cA0
        simp only [mI_wI, upd_at, hne, reduceIte, Nat.reduceEqDiff]
        exact ⟨⟨h0, h1, h2, h3, by rw [hww]; rfl, h5, h6, h8⟩, h7⟩
      rw [h4]
      refine c_if (fun q => ?_) (fun q => ?_)
      · refine fin 1 ?_
        rw [show (0 : Int32) = zn 0 from rfl, zn_inj (by omega) (by omega)] at q
        omega
      · refine fin 0 ?_
        rw [show (0 : Int32) = zn 0 from rfl, zn_inj (by omega) (by omega)] at q
        omega
    -- the reference
    have hy : ∀ M2, MA ad M2 Y P T tl ea → p_cl (m_X12_halt G M2 (ad 70) (zn i)) (fun M4 r5 => mI M4 (ad 70) 0 = 0 ∧ r5 = zn (1 - an_w (yd_a Y i)) ∧ MA ad M4 (aAnt i (anWalk (1 - an_w (yd_a Y i)) (yd_a Y i)) Y) P T tl ea ∧ Fr (Bk ad 70 105) M2 M4) := by
      intro M2 hm2
      have e := m_tell (v := 0) hA hm2
      unfold m_X12_halt
      rw [m_isAnt_t hS hm2.2.1.1.2.1 hn h]
      refine c_cl (c_some (c_f (by decide) ?_))
      unfold m_X12_halt_14
      refine c_wI (c_t e.1 (c_rf (sh_m13 hS) (c_rf (s9 s80) (c_rf (sh_m13 hS) (c_rf (s9 s80) (c_ix (by rw [sn6 s80]; exact hix) (c_ix (by rw [sn6 s80]; exact hix) (c_wI (c_rf (sh_m13 hS) (c_rf (s9 s80) (c_ix (by rw [sn6 s80]; exact hix) ?_)))))))))))
      have hci := e.2.2.1.1.2.2 i k1
      rw [zn_nat k2, hci.2.2.2.1, show (1 : Int32) - zn (1 - an_w (yd_a Y i)) = zn (1 - (1 - an_w (yd_a Y i))) from zn_sub (a := 1) (by omega)]
      obtain ⟨g1, g2, g3⟩ := mA_rest (w := 1 - an_w (yd_a Y i)) hA hci
      have key : ∀ r5 : Int32, r5 = zn (1 - an_w (yd_a Y i)) → mI (wI (wI M2 (ad 70) 0 0) (ad (80 + 6)) i (zn (1 - (1 - an_w (yd_a Y i))))) (ad 70) 0 = 0 ∧ r5 = zn (1 - an_w (yd_a Y i)) ∧ MA ad (wI (wI M2 (ad 70) 0 0) (ad (80 + 6)) i (zn (1 - (1 - an_w (yd_a Y i))))) (aAnt i (anWalk (1 - an_w (yd_a Y i)) (yd_a Y i)) Y) P T tl ea ∧ Fr (Bk ad 70 105) M2 (wI (wI M2 (ad 70) 0 0) (ad (80 + 6)) i (zn (1 - (1 - an_w (yd_a Y i))))) := fun r5 hr5 => ⟨by rw [Fr_I hA g3 (by omega)]; exact e.1, hr5, MA_ant hA e.2.2.1 rfl g1 g2 g3, Fr_tr e.2.2.2 (Fr_sub g3 (by omega) (by omega))⟩
      rw [g1.2.2.2.1]
      have e0 : (zn (1 - an_w (anWalk (1 - an_w (yd_a Y i)) (yd_a Y i))) = 0) ↔ an_w (yd_a Y i) = 0 := by
        rw [show (0 : Int32) = zn 0 from rfl, zn_inj (by omega) (by decide)]
        show 1 - (1 - an_w (yd_a Y i)) = 0 ↔ _
        omega
      refine c_if (fun q => ?_) (fun q => ?_)
      · exact c_ck (Or.inr rfl) (c_some (key 1 (by rw [e0.mp q]; rfl)))
      · have : an_w (yd_a Y i) = 1 := by have h0 : ¬ an_w (yd_a Y i) = 0 := fun h => q (e0.mpr h); omega
        exact c_ck (Or.inl rfl) (c_some (key 0 (by rw [this]; rfl)))
    obtain ⟨M1, r, er, rfl, hc1, hF⟩ := hx
    rw [er]
    have hm1 := MA_Fr hA hm hF (by omega)
    have fin : ∀ w : Nat, w = 1 - an_w (yd_a Y i) → ∀ z : Int64, z = (if w = 0 then 0 else 1) → p_cl (m_L_halt_15 G (ad 0) (zn i) (ad 105) M1 0 z) (fun M1 r2 => p_cl (m_X12_halt G M1 (ad 70) (zn i)) (fun M4 r5 => p_cl (m_X12_thrown G M4 (ad 70)) (fun M7 r8 => (p_if (r8 = r2) ((p_if (r2 = 0) (p_ix (0 : Int32) (gN G (ad 105)) ((p_if (r5 = 0) ((p_if ((lg_cmp (mJ M7 (ad 105) (Int32.toNatClampNeg (0 : Int32))) (0 : Int64)) = 0) (post G M7) (False))) ((p_if ((lg_cmp (mJ M7 (ad 105) (Int32.toNatClampNeg (0 : Int32))) (1 : Int64)) = 0) (post G M7) (False)))))) (post G M7))) (False))))) := by
      intro w hww z hz
      unfold m_L_halt_15
      rw [sh_o hS]
      refine c_ix (by unfold vp_in; decide) (c_wJ (c_some ?_))
      have hF2 : Fr (Bk ad 105 106) M1 (wJ M1 (ad 105) (Int32.toNatClampNeg (0 : Int32)) z) := Fr_wJ Fr_rf (Bk_in (by omega) (by omega))
      have hc2 := CA_Fr (Y := aAnt i (anWalk (1 - an_w (yd_a Y i)) (yd_a Y i)) Y) hA hn hc1 hF2 (by omega)
      refine c_mono (hy _ (MA_Fr hA hm1 hF2 (by omega))) ?_
      rintro M4 r5 ⟨h1, rfl, h3, h4⟩
      refine c_some ?_
      have hJ : mJ M4 (ad 105) (Int32.toNatClampNeg (0 : Int32)) = z := by
        rw [Fr_J hA h4 (by omega), mJ_wJ, if_pos rfl, updL_at, if_pos rfl]
      have hp : post G M4 := H M4 (aAnt i (anWalk (1 - an_w (yd_a Y i)) (yd_a Y i)) Y) (vY_ant hv (Nat.le_refl _) (vA_walk hvi.1 (by omega)) hvi.2) (vR_ant hr (hr i k1)) rfl (CA_Fr (Y := aAnt i (anWalk (1 - an_w (yd_a Y i)) (yd_a Y i)) Y) hA hn hc2 h4 (by omega)) h3
      have e0 : (zn (1 - an_w (yd_a Y i)) = 0) ↔ w = 0 := by rw [show (0 : Int32) = zn 0 from rfl, zn_inj (by omega) (by decide)]; omega
      refine ⟨fun _ => ⟨fun _ => ⟨by unfold vp_in; decide, ⟨fun q => ⟨fun _ => hp, fun q2 => q2 ?_⟩, fun q => ⟨fun _ => hp, fun q2 => q2 ?_⟩⟩⟩, fun q => absurd rfl q⟩, fun q => q h1⟩
      · rw [hJ, hz, if_pos (e0.mp q)]; exact lg_same
      · rw [hJ, hz, if_neg (fun h => q (e0.mpr h))]; exact lg_same
    show p_cl (if zn (1 - an_w (yd_a Y i)) = 0 then _ else _) _
    refine c_if (fun q => ?_) (fun q => ?_)
    · rw [show (0 : Int32) = zn 0 from rfl, zn_inj (by omega) (by decide)] at q
      exact fin (1 - an_w (yd_a Y i)) rfl 0 (by rw [if_pos q])
    · rw [show (0 : Int32) = zn 0 from rfl, zn_inj (by omega) (by decide)] at q
      exact fin (1 - an_w (yd_a Y i)) rfl 1 (by rw [if_neg q])
  · have hx : t_X9_halt G M (ad 0) c1 = some (M, .inr "java/lang/IndexOutOfBoundsException") := by
      refine cl_eq ?_
      unfold t_X9_halt
      rw [c_isAnt_f hS hc.1.2.1.1 hn h]
      exact c_cl (c_some (c_t rfl (c_some ⟨rfl, rfl⟩)))
    rw [hx]
    refine c_some ?_
    have hm1 := MA_th (v := 1) hA hm
    have hF : Fr (Bk ad 70 71) M (wI M (ad 70) 0 1) := Fr_wI Fr_rf (Bk_in (by omega) (by omega))
    have e1 : mI (wI M (ad 70) 0 1) (ad 70) 0 = 1 := by rw [mI_wI, if_pos rfl, upd_at, if_pos rfl]
    unfold m_X12_halt
    rw [m_isAnt_f hS hm.2.1.1.2.1 hn h]
    refine c_cl (c_some (c_t rfl ?_))
    unfold m_X12_halt_14
    refine c_wI (c_f (by rw [e1]; decide) (c_ck (Or.inl rfl) (c_some (c_some ?_))))
    exact ⟨fun _ => ⟨fun q => absurd q (by decide), fun _ => H _ Y hv hr rfl (CA_Fr hA hn hc hF (by omega)) hm1⟩, fun q => q e1⟩
end Hand
