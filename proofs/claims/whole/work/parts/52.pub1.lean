/-! the calls: how one ends; what is only told -/
theorem zrc {r c : Nat} : zn r * 64 + zn c = zn (64 * r + c) := by rw [show zn r * 64 = zn (r * 64) from zn_mul r 64, zn_add, Nat.mul_comm]
theorem zrc' {r c : Nat} : (64 : Int32) * zn r + zn c = zn (64 * r + c) := by rw [show (64 : Int32) * zn r = zn (64 * r) from zn_mul 64 r, zn_add]
theorem lg_same {x : Int64} : lg_cmp x x = 0 := by
  unfold lg_cmp
  rw [if_neg (Int64.lt_irrefl), if_pos rfl]
section Ends
variable {G : gS} {ad : Nat → Nat} {M : mS} {Y Y' : aY} {P : aP} {T : Nat → Nat} {tl : Nat} {ea : Int32} {post : gS → mS → Prop} {x : Option (mS × (Int32 ⊕ String))} {kx : mS → String → Option (mS × Int32)} {y : mS → Option (mS × Int32)}
def fin_f (G : gS) (ad : Nat → Nat) (x : Option (mS × (Int32 ⊕ String))) (kx : mS → String → Option (mS × Int32)) (y : mS → Option (mS × Int32)) (post : gS → mS → Prop) : Prop := p_cl (o_tr x (fun M1 r2 => o_ix (0 : Int32) (gN G (ad 105)) (o_wJ M1 (ad 105) (Int32.toNatClampNeg (0 : Int32)) (Int32.toInt64 r2) (fun M6 => some (M6, (0 : Int32))))) kx) (fun M1 r2 => p_cl (y M1) (fun M4 r5 => p_cl (m_X12_thrown G M4 (ad 70)) (fun M7 r8 => (p_if (r8 = r2) ((p_if (r2 = 0) (p_ix (0 : Int32) (gN G (ad 105)) ((p_if ((lg_cmp (mJ M7 (ad 105) (Int32.toNatClampNeg (0 : Int32))) (Int32.toInt64 r5)) = 0) (post G M7) (False)))) (post G M7))) (False)))))
theorem fin_val (hA : Inj ad) (hS : Sh G ad) (hn : yd_n Y' ≤ 6) {v : Int32} (hm : MA ad M Y P T tl ea) (hx : p_cl x (fun M1 r => r = .inl v ∧ CA ad M1 Y' P T tl ea ∧ Fr (Bk ad 0 70) M M1)) (hy : ∀ M2, MA ad M2 Y P T tl ea → p_cl (y M2) (fun M4 r5 => mI M4 (ad 70) 0 = 0 ∧ r5 = v ∧ MA ad M4 Y' P T tl ea ∧ Fr (Bk ad 70 105) M2 M4)) (H : ∀ M', CA ad M' Y' P T tl ea → MA ad M' Y' P T tl ea → post G M') : fin_f G ad x kx y post := by
  obtain ⟨M1, r, rfl, rfl, hc, hF⟩ := hx
  unfold fin_f
  show p_cl (o_ix (0 : Int32) (gN G (ad 105)) (o_wJ M1 (ad 105) (Int32.toNatClampNeg (0 : Int32)) (Int32.toInt64 v) (fun M6 => some (M6, (0 : Int32))))) _
  rw [sh_o hS]
  refine c_ix (by unfold vp_in; decide) (c_wJ (c_some ?_))
  have hF2 : Fr (Bk ad 105 106) M1 (wJ M1 (ad 105) (Int32.toNatClampNeg (0 : Int32)) (Int32.toInt64 v)) := Fr_wJ Fr_rf (Bk_in (by omega) (by omega))
  have hc2 := CA_Fr hA hn hc hF2 (by omega)
  have hm2 := MA_Fr hA (MA_Fr hA hm hF (by omega)) hF2 (by omega)
  refine c_mono (hy _ hm2) ?_
  rintro M4 r5 ⟨h1, rfl, h3, h4⟩
  refine c_some ?_
  have hJ : mJ M4 (ad 105) (Int32.toNatClampNeg (0 : Int32)) = Int32.toInt64 r5 := by
    rw [Fr_J hA h4 (by omega), mJ_wJ, if_pos rfl, updL_at, if_pos rfl]
  refine ⟨fun _ => ⟨fun _ => ⟨by unfold vp_in; decide, ⟨fun _ => H M4 (CA_Fr hA hn hc2 h4 (by omega)) h3, fun q => q (by rw [hJ]; exact lg_same)⟩⟩, fun q => absurd rfl q⟩, fun q => q h1⟩
theorem fin_exc (hA : Inj ad) (hS : Sh G ad) (hn : yd_n Y ≤ 6) {code : Int32} {E : String} (hm : MA ad M Y P T tl ea) (hc : CA ad M Y P T tl ea) (hx : p_cl x (fun M1 r => M1 = M ∧ r = .inr E)) (hk : ∀ M, kx M E = some (M, code)) (h0 : code ≠ 0) (hy : p_cl (y M) (fun M4 _ => M4 = wI (wI M (ad 70) 0 0) (ad 70) 0 code)) (H : ∀ M', CA ad M' Y P T tl ea → MA ad M' Y P T tl ea → post G M') : fin_f G ad x kx y post := by
  obtain ⟨M1, r, rfl, rfl, rfl⟩ := hx
  unfold fin_f
  show p_cl (kx M1 E) _
  rw [hk]
  refine c_some (c_mono hy ?_)
  rintro M4 r5 rfl
  refine c_some ?_
  have hF : Fr (Bk ad 70 71) M1 (wI (wI M1 (ad 70) 0 0) (ad 70) 0 code) := Fr_wI (Fr_wI Fr_rf (Bk_in (by omega) (by omega))) (Bk_in (by omega) (by omega))
  exact ⟨fun _ => ⟨fun q => absurd q h0, fun _ => H _ (CA_Fr hA hn hc hF (by omega)) (MA_th hA (MA_th hA hm))⟩, fun q => q (by rw [mI_wI, if_pos rfl, upd_at, if_pos rfl])⟩
/-- the reference only tells -/
theorem m_tell (hA : Inj ad) {v : Int32} {M2 : mS} (hm2 : MA ad M2 Y P T tl ea) : mI (wI M2 (ad 70) 0 0) (ad 70) 0 = 0 ∧ v = v ∧ MA ad (wI M2 (ad 70) 0 0) Y P T tl ea ∧ Fr (Bk ad 70 105) M2 (wI M2 (ad 70) 0 0) := ⟨by rw [mI_wI, if_pos rfl, upd_at, if_pos rfl], rfl, MA_th hA hm2, Fr_wI Fr_rf (Bk_in (by omega) (by omega))⟩
end Ends
section Tell
variable {G : gS} {ad : Nat → Nat} {M : mS} {Y : aY} {P : aP} {T : Nat → Nat} {tl b : Nat} {ea : Int32} {post : gS → mS → Prop}
theorem ok_3 (hA : Inj ad) (hn : yd_n Y ≤ 6) (hc : CA ad M Y P T tl ea) (hm : MA ad M Y P T tl ea) (H : ∀ M', CA ad M' Y P T tl ea → MA ad M' Y P T tl ea → post G M') : fc_3 G M (ad 0) (ad 70) (ad 105) post := by
  have hF : Fr (Bk ad 70 71) M (wI M (ad 70) 0 0) := Fr_wI Fr_rf (Bk_in (by omega) (by omega))
  have hm2 := MA_th (v := 0) hA hm
  unfold fc_3 m_X9_errorAt m_X12_errorAt
  refine c_some (c_wI (c_some ⟨fun _ => H _ (CA_Fr hA hn hc hF (by omega)) hm2, fun q => q ?_⟩))
  rw [hc.2.2.2.2.2, hm2.2.2.2.2]
theorem ok_5 (hA : Inj ad) (hS : Sh G ad) (hv : vY b Y) (hc : CA ad M Y P T tl ea) (hm : MA ad M Y P T tl ea) (H : ∀ M', CA ad M' Y P T tl ea → MA ad M' Y P T tl ea → post G M') {c1 c2 : Int32} : fc_5 G M (ad 0) (ad 70) (ad 105) c1 c2 post := by
  unfold fc_5 m_L_stone
  by_cases h : vp_in c1 64 ∧ vp_in c2 64
  · obtain ⟨c, k1, k2, rfl⟩ := in_ex h.1
    obtain ⟨r, k3, k4, rfl⟩ := in_ex h.2
    refine fin_val (v := zn (yd_c Y (64 * r + c))) hA hS hv.2.1 hm ?_ ?_ H
    · unfold t_X9_stone
      rw [c_isStone_t h.1 h.2]
      refine c_cl (c_some (c_f (by decide) (c_rf (sh_x2 hS) ?_)))
      rw [zrc, c_colourAt (sh_Y21 hS) hc.1.1 (show 64 * r + c < 4096 by omega)]
      exact c_cl (c_some (c_some ⟨rfl, hc, Fr_rf⟩))
    · intro M2 hm2
      unfold m_X12_stone
      refine c_wI ?_
      rw [m_isStone_t h.1 h.2]
      have e := m_tell (v := zn (yd_c Y (64 * r + c))) hA hm2
      refine c_cl (c_some (c_f (by decide) (c_rf (sh_m13 hS) (c_rf (s4 (sh_S80 hS)) ?_))))
      rw [zrc', sn1 (sh_S80 hS)]
      refine c_ix (zn_in (by omega) (by decide)) (c_some ?_)
      rw [zn_nat (by omega), e.2.2.1.1.1.1 _ (by omega)]
      exact e
  · refine fin_exc (E := "java/lang/IndexOutOfBoundsException") (code := 1) hA hS hv.2.1 hm hc ?_ (fun _ => rfl) (by decide) ?_ H
    · unfold t_X9_stone
      rw [c_isStone_f h]
      exact c_cl (c_some (c_t rfl (c_some ⟨rfl, rfl⟩)))
    · unfold m_X12_stone
      refine c_wI ?_
      rw [m_isStone_f h]
      exact c_cl (c_some (c_t rfl (c_cl (c_some (c_some rfl)))))
theorem m_stonesOf_loop {s : Nat} (hS : SSh G ad s) {c : Nat → Nat} (hc : mYc ad M s c) {a0 : Nat} {v : Nat} (hv : v < 6) (h6 : ∀ p, c p < 6) : ∀ (d k f : Nat), k + d = 4096 → d < f → m_X12_stonesOf_17 G a0 (zn v) f M (zn (cn c v k)) (ad (s + 1)) (zn 4096) (zn k) = some (M, zn (cn c v 4096)) := by
  intro d
  induction d with
  | zero =>
    intro k f hk hf
    obtain ⟨f, rfl⟩ : ∃ g, f = g + 1 := ⟨f - 1, by omega⟩
    have hk : k = 4096 := by omega
    subst hk
    rw [m_X12_stonesOf_17, if_pos (Int32.le_refl _)]
  | succ d ih =>
    intro k f hk hf
    obtain ⟨f, rfl⟩ : ∃ g, f = g + 1 := ⟨f - 1, by omega⟩
    have hck := h6 k
    rw [m_X12_stonesOf_17, if_neg (by rw [zn_le (by omega) (by omega)]; omega)]
    unfold o_ix o_bd
    rw [sn1 hS, if_neg (show ¬ (zn k < 0 ∨ 4096 ≤ (zn k).toNatClampNeg) from zn_in (by omega) (by decide)), zn_nat (by omega), hc.1 k (by omega)]
    dsimp only
    have fin : ∀ e : Nat, (e = if c k = v then 1 else 0) → m_X12_stonesOf_42 G a0 (zn v) (fun M v2 v3 v4 v5 => m_X12_stonesOf_17 G a0 (zn v) f M v2 v3 v4 v5) M (ad (s + 1)) (zn 4096) (zn k) (zn (cn c v k)) (zn e) = some (M, zn (cn c v 4096)) := by
      intro e he
      unfold m_X12_stonesOf_42 o_bd
      rw [zn_add, zn_one, show cn c v k + e = cn c v (k + 1) by rw [cn, he]]
      exact ih (k + 1) f (by omega) (by omega)
    have e2 : (zn (c k) = zn v) ↔ c k = v := zn_inj (by omega) (by omega)
    by_cases g : c k = v
    · rw [if_pos (e2.mpr g)]
      exact fin 1 (by rw [if_pos g])
    · rw [if_neg (fun q => g (e2.mp q))]
      exact fin 0 (by rw [if_neg g])
theorem ok_6 (hA : Inj ad) (hS : Sh G ad) (hv : vY b Y) (hc : CA ad M Y P T tl ea) (hm : MA ad M Y P T tl ea) (H : ∀ M', CA ad M' Y P T tl ea → MA ad M' Y P T tl ea → post G M') {c1 : Int32} : fc_6 G M (ad 0) (ad 70) (ad 105) c1 post := by
  unfold fc_6 m_L_colour
  by_cases h : vp_in c1 6
  · obtain ⟨c, k1, k2, rfl⟩ := in_ex h
    refine fin_val (v := zn (cn (yd_c Y) c 4096)) hA hS hv.2.1 hm ?_ ?_ H
    · unfold t_X9_colour
      rw [c_isColour_t h]
      refine c_cl (c_some (c_f (by decide) (c_rf (sh_x2 hS) (c_rf (sh_Y21 hS).2.2.1 ?_))))
      rw [(sh_Y21 hS).2.2.2.2.2.2.2.1]
      refine c_ix h (c_some ⟨?_, hc, Fr_rf⟩)
      rw [zn_nat (by omega), hc.1.1.2.2 _ k1]
    · intro M2 hm2
      have e := m_tell (v := zn (cn (yd_c Y) c 4096)) hA hm2
      unfold m_X12_colour
      refine c_wI ?_
      rw [show (5 : Int32) = zn 6 - 1 from by decide, m_isInN_t (by decide) h]
      refine c_cl (c_some (c_f (by decide) ?_))
      unfold m_X12_stonesOf
      refine c_cl (c_rf (sh_m13 hS) (c_rf (s4 (sh_S80 hS)) (c_bd ?_)))
      rw [sn1 (sh_S80 hS)]
      have := m_stonesOf_loop (a0 := ad 70) (sh_S80 hS) e.2.2.1.1.1 k1 hv.1 4096 0 fu (by omega) (by unfold fu; omega)
      rw [show zn (cn (yd_c Y) c 0) = (0 : Int32) from rfl, show zn 0 = (0 : Int32) from rfl] at this
      rw [this]
      exact c_some (c_some e)
  · refine fin_exc (E := "java/lang/IndexOutOfBoundsException") (code := 1) hA hS hv.2.1 hm hc ?_ (fun _ => rfl) (by decide) ?_ H
    · unfold t_X9_colour
      rw [c_isColour_f h]
      exact c_cl (c_some (c_t rfl (c_some ⟨rfl, rfl⟩)))
    · unfold m_X12_colour
      refine c_wI ?_
      rw [show (5 : Int32) = zn 6 - 1 from by decide, m_isInN_f (by decide) h]
      exact c_cl (c_some (c_t rfl (c_cl (c_some (c_some rfl)))))
theorem ok_7 (hA : Inj ad) (hS : Sh G ad) (hv : vY b Y) (hc : CA ad M Y P T tl ea) (hm : MA ad M Y P T tl ea) (H : ∀ M', CA ad M' Y P T tl ea → MA ad M' Y P T tl ea → post G M') {c1 : Int32} : fc_7 G M (ad 0) (ad 70) (ad 105) c1 post := by
  unfold fc_7 m_L_row
  by_cases h : vp_in c1 64
  · obtain ⟨c, k1, k2, rfl⟩ := in_ex h
    refine fin_val (v := zn (nz (yd_c Y) (64 * c) 64)) hA hS hv.2.1 hm ?_ ?_ H
    · unfold t_X9_row
      rw [c_isLine_t h]
      refine c_cl (c_some (c_f (by decide) (c_rf (sh_x2 hS) (c_rf (sh_Y21 hS).2.1 ?_))))
      rw [(sh_Y21 hS).2.2.2.2.2.2.1]
      refine c_ix h (c_some ⟨?_, hc, Fr_rf⟩)
      rw [zn_nat (by omega), hc.1.1.2.1 _ k1]
    · intro M2 hm2
      have e := m_tell (v := zn (nz (yd_c Y) (64 * c) 64)) hA hm2
      unfold m_X12_row
      refine c_wI ?_
      rw [show (63 : Int32) = zn 64 - 1 from by decide, m_isInN_t (by decide) h]
      refine c_cl (c_some (c_f (by decide) (c_rf (sh_m13 hS) (c_rf (s5 (sh_S80 hS)) ?_))))
      rw [sn2 (sh_S80 hS)]
      refine c_ix h (c_some ?_)
      rw [zn_nat (by omega), e.2.2.1.1.1.2 _ k1]
      exact e
  · refine fin_exc (E := "java/lang/IndexOutOfBoundsException") (code := 1) hA hS hv.2.1 hm hc ?_ (fun _ => rfl) (by decide) ?_ H
    · unfold t_X9_row
      rw [c_isLine_f h]
      exact c_cl (c_some (c_t rfl (c_some ⟨rfl, rfl⟩)))
    · unfold m_X12_row
      refine c_wI ?_
      rw [show (63 : Int32) = zn 64 - 1 from by decide, m_isInN_f (by decide) h]
      exact c_cl (c_some (c_t rfl (c_cl (c_some (c_some rfl)))))
theorem m_turnOf (hS : Sh G ad) {n k0 : Nat} {ru : Nat → Nat} (hvP : vP n P) (hP : mP ad M P k0 ru) {r c : Nat} (hr : r < pg_r P) : 6 * r + c % pg_z P r < 30 ∧ mI M (ad (110 + 1)) r = zn (pg_z P r) ∧ ¬ zn (pg_z P r) = 0 ∧ mI M (ad (110 + 2)) (6 * r + c % pg_z P r) = zn (pg_t P r (c % pg_z P r)) := by
  have h5 := hvP.1
  have hz := hvP.2.1 r hr
  have hm : c % pg_z P r < pg_z P r := Nat.mod_lt _ (by omega)
  refine ⟨by omega, hP.2.1 r hr, ?_, hP.2.2.1 r hr _ hm⟩
  rw [show (0 : Int32) = zn 0 from rfl, zn_inj (by omega) (by omega)]
  omega
theorem ok_8 (hA : Inj ad) (hS : Sh G ad) (hv : vY b Y) (hvP : vP (yd_n Y) P) (hc : CA ad M Y P T tl ea) (hm : MA ad M Y P T tl ea) (H : ∀ M', CA ad M' Y P T tl ea → MA ad M' Y P T tl ea → post G M') {c1 c2 : Int32} : fc_8 G M (ad 0) (ad 70) (ad 105) c1 c2 post := by
  have h5 := hvP.1
  unfold fc_8 m_L_turn
  by_cases h : vp_in c1 (pg_r P) ∧ vp_in c2 6
  · obtain ⟨r, k1, k2, rfl⟩ := in_ex h.1
    obtain ⟨c, k3, k4, rfl⟩ := in_ex h.2
    refine fin_val (v := zn (pg_t P r (c % pg_z P r))) hA hS hv.2.1 hm ?_ ?_ H
    · unfold t_X9_turn
      refine c_f (zn_nn k2) (c_rf (sh_x1 hS) ?_)
      rw [hc.2.1.1.1, c_isColour_t h.2]
      refine c_f (by rw [zn_le (by omega) (by omega)]; omega) (c_cl (c_some (c_f (by decide) (c_rf (sh_x1 hS) ?_))))
      rw [c_turn (sh_P3 hS) hvP hc.2.1 k1 (c := c) (by omega)]
      exact c_cl (c_some (c_some ⟨rfl, hc, Fr_rf⟩))
    · intro M2 hm2
      have e := m_tell (v := zn (pg_t P r (c % pg_z P r))) hA hm2
      obtain ⟨q1, q2, q3, q4⟩ := m_turnOf hS hvP e.2.2.1.2.1 (c := c) k1
      unfold m_X12_turn
      refine c_wI (c_rf (sh_K hS) ?_)
      rw [e.2.2.1.2.1.1.1, m_isInN_t (by omega) h.1]
      refine c_cl (c_some (c_f (by decide) ?_))
      rw [show (5 : Int32) = zn 6 - 1 from by decide, m_isInN_t (by decide) h.2]
      refine c_cl (c_some (c_f (by decide) (c_rf (sh_K hS) (c_rf (l2 (sh_L hS)) (c_rf (sh_K hS) (c_rf (l1 (sh_L hS)) ?_))))))
      rw [ln1 (sh_L hS), ln2 (sh_L hS), zn_nat k2, q2]
      refine c_ix (zn_in (by omega) (by decide)) (c_ck q3 ?_)
      have hz := hvP.2.1 r k1
      rw [zn_mod (by omega) (by omega), show (6 : Int32) * zn r = zn (6 * r) from zn_mul 6 r, zn_add]
      refine c_ix (zn_in q1 (by decide)) (c_some ?_)
      rw [zn_nat (by omega), q4]
      exact e
  · refine fin_exc (E := "java/lang/IndexOutOfBoundsException") (code := 1) hA hS hv.2.1 hm hc ?_ (fun _ => rfl) (by decide) ?_ H
    · unfold t_X9_turn t_X9_turn_22
      by_cases h1 : vp_in c1 (pg_r P)
      · obtain ⟨r, k1, k2, rfl⟩ := in_ex h1
        refine c_f (zn_nn k2) (c_rf (sh_x1 hS) ?_)
        rw [hc.2.1.1.1, c_isColour_f (fun q => h ⟨h1, q⟩)]
        exact c_f (by rw [zn_le (by omega) (by omega)]; omega) (c_cl (c_some (c_t rfl (c_some ⟨rfl, rfl⟩))))
      · refine c_if (fun q => c_some ⟨rfl, rfl⟩) (fun q => c_rf (sh_x1 hS) ?_)
        rw [hc.2.1.1.1]
        exact c_t ((in_not (by omega) h1).resolve_left q) (c_some ⟨rfl, rfl⟩)
    · have e := m_tell (v := 0) hA hm
      unfold m_X12_turn m_X12_turn_58
      refine c_wI (c_rf (sh_K hS) ?_)
      rw [e.2.2.1.2.1.1.1]
      by_cases h1 : vp_in c1 (pg_r P)
      · rw [m_isInN_t (by omega) h1]
        refine c_cl (c_some (c_f (by decide) ?_))
        rw [show (5 : Int32) = zn 6 - 1 from by decide, m_isInN_f (by decide) (fun q => h ⟨h1, q⟩)]
        exact c_cl (c_some (c_t rfl (c_cl (c_some (c_some rfl)))))
      · rw [m_isInN_f (by omega) h1]
        exact c_cl (c_some (c_t rfl (c_cl (c_some (c_some rfl)))))
theorem m_antTold (hS : Sh G ad) (hv : vY b Y) (hb : b < 900000000) (hm : MA ad M Y P T tl ea) {i w : Nat} (hi : i < yd_n Y) (hw : w < 9) : m_X12_antTold G M (ad 70) (zn i) (zn w) = some (M, anAns (yd_a Y i) w) := by
  have hn := hv.2.1
  have hvi := hv.2.2 i hi
  have hci := hm.1.2.2 i hi
  have hix : vp_in (zn i) 6 := zn_in (by omega) (by decide)
  have ei : (zn i).toNatClampNeg = i := zn_nat (by omega)
  have s80 := sh_S80 hS
  refine cl_eq ?_
  unfold m_X12_antTold
  match w, hw with
  | 0, _ =>
    refine c_t rfl (c_rf (sh_K hS) (c_rf (l6 (sh_L hS)) (c_ix (by rw [ln4 (sh_L hS)]; exact hix) (c_some ⟨rfl, ?_⟩))))
    rw [ei]
    exact hm.2.1.2.2.2.1 i hi
  | 1, _ =>
    refine c_f (by decide) (c_t rfl (c_rf (sh_m13 hS) (c_rf (s6 s80) (c_ix (by rw [sn3 s80]; exact hix) (c_some ⟨rfl, ?_⟩)))))
    rw [ei]
    exact hci.1
  | 2, _ =>
    refine c_f (by decide) (c_f (by decide) (c_t rfl (c_rf (sh_m13 hS) (c_rf (s7 s80) (c_ix (by rw [sn4 s80]; exact hix) (c_some ⟨rfl, ?_⟩))))))
    rw [ei]
    exact hci.2.1
  | 3, _ =>
    refine c_f (by decide) (c_f (by decide) (c_f (by decide) (c_t rfl (c_rf (sh_m13 hS) (c_rf (s8 s80) (c_ix (by rw [sn5 s80]; exact hix) (c_some ⟨rfl, ?_⟩)))))))
    rw [ei]
    exact hci.2.2.1
  | 4, _ =>
    refine c_f (by decide) (c_f (by decide) (c_f (by decide) (c_f (by decide) (c_t rfl (c_rf (sh_m13 hS) (c_rf (s9 s80) (c_ix (by rw [sn6 s80]; exact hix) (c_some ⟨rfl, ?_⟩))))))))
    have hw := hvi.1.2.2.2.2.1
    rw [ei, hci.2.2.2.1, show (1 : Int32) = zn 1 from rfl, zn_sub (by omega), show 1 - (1 - an_w (yd_a Y i)) = an_w (yd_a Y i) by omega]
    rfl
  | 5, _ =>
    refine c_f (by decide) (c_f (by decide) (c_f (by decide) (c_f (by decide) (c_f (by decide) (c_t rfl (c_rf (sh_m13 hS) (c_rf (s10 s80) (c_ix (by rw [sn7 s80]; exact hix) (c_some ⟨rfl, ?_⟩)))))))))
    rw [ei]
    exact hci.2.2.2.2.1
  | 6, _ =>
    refine c_f (by decide) (c_f (by decide) (c_f (by decide) (c_f (by decide) (c_f (by decide) (c_f (by decide) (c_t rfl (c_rf (sh_m13 hS) ?_)))))))
    rw [m_per s80 (by omega) hvi.1 (by omega) hci]
    exact c_cl (c_some (c_some ⟨rfl, rfl⟩))
  | 7, _ =>
    refine c_f (by decide) (c_f (by decide) (c_f (by decide) (c_f (by decide) (c_f (by decide) (c_f (by decide) (c_f (by decide) (c_rf (sh_m13 hS) (c_rf (sh_m13 hS) ?_))))))))
    rw [m_per s80 (by omega) hvi.1 (by omega) hci]
    refine c_cl (c_some ?_)
    rw [show (zn 7 - 6 : Int32) = zn 1 from by decide]
    have h3 := per_n (n := an_n (yd_a Y i)) (h := an_h (yd_a Y i))
    have h4 := per_le (n := an_n (yd_a Y i)) (h := an_h (yd_a Y i))
    refine c_clm (m_led s80 (by omega) hvi.1 (by omega) hci (p := anP (yd_a Y i)) (to := 1) (by unfold anP; omega) h4 (Or.inl rfl)) ?_
    rintro M1 r ⟨rfl, rfl⟩
    refine c_some ⟨rfl, ?_⟩
    rw [sL_1]
    rfl
  | 8, _ =>
    refine c_f (by decide) (c_f (by decide) (c_f (by decide) (c_f (by decide) (c_f (by decide) (c_f (by decide) (c_f (by decide) (c_rf (sh_m13 hS) (c_rf (sh_m13 hS) ?_))))))))
    rw [m_per s80 (by omega) hvi.1 (by omega) hci]
    refine c_cl (c_some ?_)
    rw [show (zn 8 - 6 : Int32) = zn 2 from by decide]
    have h3 := per_n (n := an_n (yd_a Y i)) (h := an_h (yd_a Y i))
    have h4 := per_le (n := an_n (yd_a Y i)) (h := an_h (yd_a Y i))
    refine c_clm (m_led s80 (by omega) hvi.1 (by omega) hci (p := anP (yd_a Y i)) (to := 2) (by unfold anP; omega) h4 (Or.inr rfl)) ?_
    rintro M1 r ⟨rfl, rfl⟩
    refine c_some ⟨rfl, ?_⟩
    rw [sL_2]
    rfl
theorem CA_ant (hA : Inj ad) (hv : vY b Y) (hc : CA ad M Y P T tl ea) {i : Nat} (hi : i < yd_n Y) {M' : mS} {A : aA} (h1 : cA ad M' (21 + 5 + 2 * i) A) (h2 : Fr (Bk ad (21 + 5 + 2 * i) (21 + 5 + 2 * i + 2)) M M') : CA ad M' (aAnt i A Y) P T tl ea ∧ Fr (Bk ad 0 70) M M' := by
  have hn := hv.2.1
  exact ⟨CA_y hc (cY_ant1 hA hn hi hc.1 h1 h2) (fun k hk => Fr_I hA h2 (by omega)) (Fr_J hA h2 (by omega)), Fr_sub h2 (by omega) (by omega)⟩
theorem CA_ant0 (hA : Inj ad) (hv : vY b Y) (hc : CA ad M Y P T tl ea) {i : Nat} (hi : i < yd_n Y) {M' : mS} (h1 : cA ad M' (21 + 5 + 2 * i) (yd_a Y i)) (h2 : Fr (Bk ad (21 + 5 + 2 * i) (21 + 5 + 2 * i + 2)) M M') : CA ad M' Y P T tl ea ∧ Fr (Bk ad 0 70) M M' := by
  have hn := hv.2.1
  exact ⟨CA_y hc (cY_ant0 hA hn hi hc.1 h1 h2) (fun k hk => Fr_I hA h2 (by omega)) (Fr_J hA h2 (by omega)), Fr_sub h2 (by omega) (by omega)⟩
theorem ok_9 (hA : Inj ad) (hS : Sh G ad) (hv : vY b Y) (hb : b < 900000000) (hc : CA ad M Y P T tl ea) (hm : MA ad M Y P T tl ea) (H : ∀ M', CA ad M' Y P T tl ea → MA ad M' Y P T tl ea → post G M') {c1 c2 : Int32} : fc_9 G M (ad 0) (ad 70) (ad 105) c1 c2 post := by
  have hn := hv.2.1
  unfold fc_9 m_L_ant
  by_cases h : vp_in c1 (yd_n Y) ∧ vp_in c2 9
  · obtain ⟨i, k1, k2, rfl⟩ := in_ex h.1
    obtain ⟨w, k3, k4, rfl⟩ := in_ex h.2
    refine fin_val (v := anAns (yd_a Y i) w) hA hS hn hm ?_ ?_ H
    · unfold t_X9_ant
      rw [c_isAnt_t hS hc.1.2.1.1 hn h.1]
      refine c_cl (c_some (c_f (by decide) (c_f (zn_nn k4) (c_t (by rw [show (9 : Int32) = zn 9 from rfl, zn_lt (by omega) (by omega)]; exact k3) (c_rf (sh_x2 hS) (c_rf (sh_Y21 hS).2.2.2.1 ?_))))))
      rw [(sh_Y21 hS).2.2.2.2.2.2.2.2.1, zn_nat k2]
      refine c_ix (zn_in (by omega) (by decide)) (c_rf ((sh_Y21 hS).2.2.2.2.1 i (by omega)) (c_clm (cA_ans hA ((sh_Y21 hS).2.2.2.2.2.2.2.2.2 i (by omega)) (hc.1.2.2 i k1) (hv.2.2 i k1).1 (by have := (hv.2.2 i k1).2; omega) k3) ?_))
      rintro M1 r ⟨rfl, g1, g2⟩
      exact c_some ⟨rfl, CA_ant0 hA hv hc k1 g1 g2⟩
    · intro M2 hm2
      have e := m_tell (v := anAns (yd_a Y i) w) hA hm2
      unfold m_X12_ant
      refine c_wI ?_
      rw [m_isAnt_t hS e.2.2.1.2.1.1.2.1 hn h.1]
      refine c_cl (c_some (c_f (by decide) ?_))
      rw [show (8 : Int32) = zn 9 - 1 from by decide, m_isInN_t (by decide) h.2]
      refine c_cl (c_some (c_f (by decide) ?_))
      rw [m_antTold hS hv hb e.2.2.1 k1 k3]
      exact c_cl (c_some (c_some e))
  · refine fin_exc (E := "java/lang/IndexOutOfBoundsException") (code := 1) hA hS hn hm hc ?_ (fun _ => rfl) (by decide) ?_ H
    · unfold t_X9_ant t_X9_ant_18
      by_cases h1 : vp_in c1 (yd_n Y)
      · rw [c_isAnt_t hS hc.1.2.1.1 hn h1]
        have h2 := in_not (n := 9) (by decide) (fun q => h ⟨h1, q⟩)
        refine c_cl (c_some (c_f (by decide) (c_if (fun q => c_some ⟨rfl, rfl⟩) (fun q => c_f ?_ (c_some ⟨rfl, rfl⟩)))))
        exact Int32.not_lt.mpr (h2.resolve_left q)
      · rw [c_isAnt_f hS hc.1.2.1.1 hn h1]
        exact c_cl (c_some (c_t rfl (c_some ⟨rfl, rfl⟩)))
    · have e := m_tell (v := 0) hA hm
      unfold m_X12_ant m_X12_ant_32
      refine c_wI ?_
      by_cases h1 : vp_in c1 (yd_n Y)
      · rw [m_isAnt_t hS e.2.2.1.2.1.1.2.1 hn h1]
        refine c_cl (c_some (c_f (by decide) ?_))
        rw [show (8 : Int32) = zn 9 - 1 from by decide, m_isInN_f (by decide) (fun q => h ⟨h1, q⟩)]
        exact c_cl (c_some (c_t rfl (c_cl (c_some (c_some rfl)))))
      · rw [m_isAnt_f hS e.2.2.1.2.1.1.2.1 hn h1]
        exact c_cl (c_some (c_t rfl (c_cl (c_some (c_some rfl)))))
end Tell
