/-! the calls that make steps, or look ahead -/
/-- behind how many steps ant i stands at place g -/
def untF (P : aP) (i g : Nat) : Nat → Nat → aY → Int32
  | 0, k, Y => if pl_ (yd_a Y i) = g then zn k else -1
  | f + 1, k, Y => if pl_ (yd_a Y i) = g then zn k else untF P i g f (k + 1) (aStep P Y)
def fndF (P : aP) : Nat → Nat → aY → Int32
  | 0, k, Y => if hwB (yd_a Y) (yd_n Y) then zn k else -1
  | f + 1, k, Y => if hwB (yd_a Y) (yd_n Y) then zn k else fndF P f (k + 1) (aStep P Y)
def advD (P : aP) (t : Nat) (Y : aY) (i : Nat) : Nat := dk (yd_c (aSteps P (aWash (8 * i) (8 * i + 7) Y) t))
def advF (P : aP) (t : Nat) (Y : aY) : Nat → Nat → Int32 → Nat → Int32
  | 0, _, best, _ => best
  | d + 1, i, best, fw => if advD P t Y i < fw then advF P t Y d (i + 1) (zn (8 * i)) (advD P t Y i) else advF P t Y d (i + 1) best fw
theorem vY_mono {b b' : Nat} {Y : aY} (h : vY b Y) (hb : b ≤ b') : vY b' Y := ⟨h.1, h.2.1, fun i hi => ⟨(h.2.2 i hi).1, Nat.le_trans (h.2.2 i hi).2 hb⟩⟩
theorem dk_le {c : Nat → Nat} : dk c ≤ 4096 := nz_le 4096
theorem st_ex {v : Int32} {N : Nat} (hN : N < 2147483648) (h1 : ¬ v < 1) (h2 : ¬ zn N < v) : ∃ t, 1 ≤ t ∧ t ≤ N ∧ v = zn t := by
  have h0 : ¬ v < 0 := fun q => h1 (Int32.lt_trans q (by decide))
  obtain ⟨a, ha, rfl⟩ := I32_nat h0
  rw [show (1 : Int32) = zn 1 from rfl, zn_lt ha (by decide)] at h1
  rw [zn_lt hN ha] at h2
  exact ⟨a, by omega, by omega, rfl⟩
theorem SB_0 {ad : Nat → Nat} {y : Nat} {M M' : mS} (h : Fr (SB ad y) M M') (hy : y + 17 ≤ 70) : Fr (Bk ad 0 70) M M' := Fr_mono h (fun _ q => q.elim (Bk_sub (by omega) (by omega)) (Bk_sub (by omega) (by omega)))
section Steps
variable {G : gS} {ad : Nat → Nat} {M : mS} {Y : aY} {P : aP} {T : Nat → Nat} {tl b : Nat} {ea : Int32} {post : gS → mS → Prop}
theorem st80 (hS : Sh G ad) (hG : wt G) (h70 : ad 70 ∈ gL G) : ad 80 ∈ gL G ∧ gK G (ad 80) = 10 := by
  have := hG _ h70 _ _ (sh_m13 hS)
  rw [sh_g70 hS] at this
  exact this
theorem st92 (hS : Sh G ad) (hG : wt G) (h70 : ad 70 ∈ gL G) : ad 92 ∈ gL G ∧ gK G (ad 92) = 10 := by
  have := hG _ h70 _ _ (sh_m14 hS)
  rw [sh_g70 hS] at this
  exact this
theorem CA_own (hA : Inj ad) {M' : mS} {Y' : aY} (h : CA ad M Y P T tl ea) (hc : cY ad M' 21 Y') (hF : Fr (SB ad 21) M M') : CA ad M' Y' P T tl ea := CA_y h hc (fun k hk => SB_I hA hF (by omega) (by omega)) (SB_J hA hF (by omega) (by omega))
theorem CA_trial (hA : Inj ad) {M' : mS} (hn : yd_n Y ≤ 6) (h : CA ad M Y P T tl ea) (hF : Fr (SB ad 38) M M') : CA ad M' Y P T tl ea := CA_keep hn h (fun k hk => SB_I hA hF (by omega) (by omega)) (SB_J hA hF (by omega) (by omega))
theorem MA_own (hA : Inj ad) {M' : mS} {Y' : aY} (h : MA ad M Y P T tl ea) (hc : mY ad M' 80 Y') (hn : yd_n Y' = yd_n Y) (hr : ∀ i, an_r (yd_a Y' i) = an_r (yd_a Y i)) (hF : Fr (Bk ad 80 (80 + 12)) M M') : MA ad M' Y' P T tl ea := MA_y h hc hn hr (by rw [Fr_I hA hF (by omega)]) (by rw [Fr_I hA hF (by omega)]) (Fr_I hA hF (by omega)) (fun k k1 k2 => Fr_I hA hF (by omega))
theorem ok_15 (hA : Inj ad) (hS : Sh G ad) (hG : wt G) (h70 : ad 70 ∈ gL G) (hv : vY b Y) (hb : b < 800000000) (hr : vR P Y) (hvP : vP (yd_n Y) P) (hc : CA ad M Y P T tl ea) (hm : MA ad M Y P T tl ea) (H : ∀ M' Y', vY (b + 1000) Y' → vR P Y' → yd_n Y' = yd_n Y → CA ad M' Y' P T tl ea → MA ad M' Y' P T tl ea → post G M') {c1 : Int32} : fc_15 G M (ad 0) (ad 70) (ad 105) c1 post := by
  have hn := hv.2.1
  have e1000 : (1000 : Int32) = zn 1000 := rfl
  unfold fc_15 m_L_pass
  by_cases h : ¬ c1 < 1 ∧ ¬ zn 1000 < c1
  · obtain ⟨t, k1, k2, rfl⟩ := st_ex (by decide) h.1 h.2
    have hsv := aSteps_v hvP hv hr t
    refine fin_val (Y' := aSteps P Y t) (v := zn (dk (yd_c (aSteps P Y t))) - zn (dk (yd_c Y))) hA hS (by rw [aSteps_n]; exact hn) hm ?_ ?_ (fun M' h1 h2 => H M' _ (vY_mono hsv.1 (by omega)) hsv.2 (aSteps_n t) h1 h2)
    · unfold t_X9_pass
      refine c_f h.1 (c_t (Int32.not_lt.mp h.2) (c_rf (sh_x2 hS) ?_))
      rw [c_dark (sh_Y21 hS) hc.1.1]
      refine c_cl (c_some (c_rf (sh_x5 hS) (c_rf (sh_x2 hS) (c_clm (c_steps hA (sh_T hS) (sh_Y21 hS) (sh_R hS) (sh_P3 hS) (by omega) (by omega) hv hr hvP (t := t) (by omega) (by omega) hc.1 hc.2.1) ?_))))
      rintro M1 _ ⟨g1, g2, g3⟩
      refine c_rf (sh_x2 hS) ?_
      rw [c_dark (sh_Y21 hS) g1.1]
      exact c_cl (c_some (c_some ⟨rfl, CA_own hA hc g1 g3, SB_0 g3 (by omega)⟩))
    · intro M2 hm2
      have e := m_tell (v := 0) hA hm2
      unfold m_X12_pass
      refine c_wI ?_
      rw [m_isIn, e1000, if_neg (fun q => q.elim h.1 h.2)]
      refine c_cl (c_some (c_f (by decide) (c_rf (sh_m13 hS) ?_)))
      rw [m_dark (sh_S80 hS) e.2.2.1.1.1]
      refine c_cl (c_some (c_rf (sh_m13 hS) (c_clm (m_steps hA (sh_S80 hS) (sh_K hS) (sh_L hS) (by omega) hv hr hvP (fun _ => rfl) (t := t) (by omega) (by omega) e.2.2.1.1 e.2.2.1.2.1) ?_)))
      rintro M1 r ⟨rfl, g1, g2⟩
      refine c_ck (st80 hS hG h70) ?_
      rw [m_dark (sh_S80 hS) g1.1]
      exact c_cl (c_some (c_some ⟨by rw [Fr_I hA g2 (by omega)]; exact e.1, rfl, MA_own hA e.2.2.1 g1 (aSteps_n t) (fun i => aSteps_r t) g2, Fr_tr e.2.2.2 (Fr_sub g2 (by omega) (by omega))⟩))
  · refine fin_exc (E := "java/lang/IllegalArgumentException") (code := 1) hA hS hn hm hc ?_ (fun _ => rfl) (by decide) ?_ (fun M' => H M' Y (vY_mono hv (by omega)) hr rfl)
    · unfold t_X9_pass t_X9_pass_12
      exact c_if (fun q => c_some ⟨rfl, rfl⟩) (fun q => c_f (fun q2 => h ⟨q, Int32.not_lt.mpr q2⟩) (c_some ⟨rfl, rfl⟩))
    · unfold m_X12_pass
      refine c_wI ?_
      rw [m_isIn, e1000, if_pos (by rcases Decidable.not_and_iff_not_or_not.mp h with q | q; exact Or.inl (Decidable.not_not.mp q); exact Or.inr (Decidable.not_not.mp q))]
      exact c_cl (c_some (c_t rfl (c_cl (c_some (c_some rfl)))))
/-- the class's trial yard as the yard is -/
theorem c_try (hA : Inj ad) (hS : Sh G ad) (hv : vY b Y) (hc : CA ad M Y P T tl ea) : p_cl (m_X8_copyFrom G M (ad 38) (ad 21)) (fun M1 _ => cY ad M1 38 Y ∧ CA ad M1 Y P T tl ea ∧ Fr (SB ad 38) M M1) := by
  refine c_mono (cY_copy hA (sh_Y38 hS) (sh_Y21 hS) (by omega) hv hc.1) ?_
  rintro M1 _ ⟨g1, g2⟩
  have hF := SB_y (y := 38) g2 (by omega) (by omega)
  exact ⟨g1, CA_trial hA hv.2.1 hc hF, hF⟩
theorem m_try (hA : Inj ad) (hS : Sh G ad) (hG : wt G) (h70 : ad 70 ∈ gL G) (hv : vY b Y) (hm : MA ad M Y P T tl ea) : p_cl (m_X11_become G M (ad 92) (ad 80)) (fun M1 r => r = ad 92 ∧ mY ad M1 92 Y ∧ MA ad M1 Y P T tl ea ∧ Fr (Bk ad 92 104) M M1) := by
  refine c_mono (mY_become hA (sh_S92 hS) (sh_S80 hS) (by omega) hv.2.1 hm.1) ?_
  rintro M1 r ⟨rfl, g1, g2⟩
  exact ⟨rfl, g1, MA_Fr hA hm g2 (by omega), g2⟩
theorem ok_16 (hA : Inj ad) (hS : Sh G ad) (hG : wt G) (h70 : ad 70 ∈ gL G) (hv : vY b Y) (hb : b < 800000000) (hr : vR P Y) (hvP : vP (yd_n Y) P) (hc : CA ad M Y P T tl ea) (hm : MA ad M Y P T tl ea) (H : ∀ M', CA ad M' Y P T tl ea → MA ad M' Y P T tl ea → post G M') {c1 c2 : Int32} : fc_16 G M (ad 0) (ad 70) (ad 105) c1 c2 post := by
  have hn := hv.2.1
  have e1000 : (1000 : Int32) = zn 1000 := rfl
  unfold fc_16 m_L_foresee
  by_cases h : ¬ c1 < 1 ∧ ¬ zn 1000 < c1
  · by_cases h2 : c2 < 4 ∨ 9 < c2
    · refine fin_exc (E := "java/lang/IndexOutOfBoundsException") (code := 2) hA hS hn hm hc ?_ (fun _ => rfl) (by decide) ?_ H
      · unfold t_X9_foresee t_X9_foresee_33
        refine c_f h.1 (c_t (Int32.not_lt.mp h.2) (c_if (fun q => c_some ⟨rfl, rfl⟩) (fun q => c_f (Int32.not_le.mpr (h2.resolve_left q)) (c_some ⟨rfl, rfl⟩))))
      · unfold m_X12_foresee
        refine c_wI ?_
        rw [m_isIn, e1000, if_neg (fun q => q.elim h.1 h.2)]
        refine c_cl (c_some (c_f (by decide) ?_))
        rw [m_isIn, if_pos h2]
        exact c_cl (c_some (c_t rfl (c_cl (c_some (c_some rfl)))))
    · obtain ⟨t, k1, k2, rfl⟩ := st_ex (by decide) h.1 h.2
      have h3 : ¬ c2 < 4 := fun q => h2 (Or.inl q)
      have h4 : ¬ (9 : Int32) < c2 := fun q => h2 (Or.inr q)
      obtain ⟨w, k3, k4, rfl⟩ := st_ex (v := c2) (N := 9) (by decide) (fun q => h3 (Int32.lt_trans q (by decide))) h4
      have k5 : 4 ≤ w := by
        rw [show (4 : Int32) = zn 4 from rfl, zn_lt (by omega) (by decide)] at h3
        omega
      have hsv := aSteps_v hvP hv hr t
      refine fin_val (Y' := Y) (v := zn (aTot (aSteps P Y t) w)) hA hS hn hm ?_ ?_ H
      · unfold t_X9_foresee
        refine c_f h.1 (c_t (Int32.not_lt.mp h.2) (c_f h3 (c_t (Int32.not_lt.mp h4) (c_rf (sh_x3 hS) (c_rf (sh_x2 hS) (c_clm (c_try hA hS hv hc) ?_))))))
        rintro M1 _ ⟨g1, g2, g3⟩
        refine c_rf (sh_x5 hS) (c_rf (sh_x3 hS) (c_clm (c_steps hA (sh_T hS) (sh_Y38 hS) (sh_R hS) (sh_P3 hS) (by omega) (by omega) hv hr hvP (t := t) (by omega) (by omega) g1 g2.2.1) ?_))
        rintro M2 _ ⟨g4, g5, g6⟩
        refine c_rf (sh_x3 hS) ?_
        rw [c_total (sh_Y38 hS) hsv.1 g4 k5 k4]
        exact c_cl (c_some (c_some ⟨rfl, CA_trial hA hn g2 g6, SB_0 (Fr_tr g3 g6) (by omega)⟩))
      · intro M2 hm2
        have e := m_tell (v := 0) hA hm2
        unfold m_X12_foresee
        refine c_wI ?_
        rw [m_isIn, e1000, if_neg (fun q => q.elim h.1 h.2)]
        refine c_cl (c_some (c_f (by decide) ?_))
        rw [m_isIn, if_neg h2]
        refine c_cl (c_some (c_f (by decide) (c_rf (sh_m14 hS) (c_rf (sh_m13 hS) (c_clm (m_try hA hS hG h70 hv e.2.2.1) ?_)))))
        rintro M1 r ⟨rfl, g1, g2, g3⟩
        refine c_ck (st92 hS hG h70) (c_clm (m_steps hA (sh_S92 hS) (sh_K hS) (sh_L hS) (by omega) hv hr hvP (fun _ => rfl) (t := t) (by omega) (by omega) g1 g2.2.1) ?_)
        rintro M3 r ⟨rfl, g4, g5⟩
        have g6 := MA_Fr hA g2 g5 (by omega)
        refine c_ck (st92 hS hG h70) ?_
        rw [m_counted (sh_S92 hS) (sh_K hS) hsv.1 (by rw [aSteps_n]; exact g6.2.1.1.2.1) g4 k5 k4]
        exact c_cl (c_some (c_some ⟨by rw [Fr_I hA g5 (by omega), Fr_I hA g3 (by omega)]; exact e.1, rfl, g6, Fr_tr e.2.2.2 (Fr_tr (Fr_sub g3 (by omega) (by omega)) (Fr_sub g5 (by omega) (by omega)))⟩))
  · refine fin_exc (E := "java/lang/IllegalArgumentException") (code := 1) hA hS hn hm hc ?_ (fun _ => rfl) (by decide) ?_ H
    · unfold t_X9_foresee t_X9_foresee_12
      exact c_if (fun q => c_some ⟨rfl, rfl⟩) (fun q => c_f (fun q2 => h ⟨q, Int32.not_lt.mpr q2⟩) (c_some ⟨rfl, rfl⟩))
    · unfold m_X12_foresee
      refine c_wI ?_
      rw [m_isIn, e1000, if_pos (by rcases Decidable.not_and_iff_not_or_not.mp h with q | q; exact Or.inl (Decidable.not_not.mp q); exact Or.inr (Decidable.not_not.mp q))]
      exact c_cl (c_some (c_t rfl (c_cl (c_some (c_some rfl)))))
theorem c_until (hA : Inj ad) (hS : Sh G ad) (hvP : vP (yd_n Y) P) {i g : Nat} (hi : i < yd_n Y) (hg : g < 4096) {c2 c3 : Int32} : ∀ (d k f b : Nat) (M : mS) (Yk : aY), k + d = 2000 → d < f → b + d < 900000000 → vY b Yk → vR P Yk → yd_n Yk = yd_n Y → cY ad M 38 Yk → cP ad M 3 P → p_cl (t_X9_until_48 G (ad 0) (zn i) c2 c3 f M (zn g) (zn k)) (fun M' r => r = .inl (untF P i g d k Yk) ∧ Fr (SB ad 38) M M') := by
  intro d
  induction d with
  | zero =>
    intro k f b M Yk hk hf hb hv hr hn hc hcP
    obtain ⟨f, rfl⟩ : ∃ g, f = g + 1 := ⟨f - 1, by omega⟩
    have hk : k = 2000 := by omega
    subst hk
    have h6 := hv.2.1
    have hpl := pl_lt (hv.2.2 i (by omega)).1
    have e2 : (zn (pl_ (yd_a Yk i)) = zn g) ↔ pl_ (yd_a Yk i) = g := zn_inj (by omega) (by omega)
    rw [t_X9_until_48]
    refine c_t (Int32.le_refl _) (c_rf (sh_x3 hS) (c_rf (sh_Y38 hS).2.2.2.1 ?_))
    rw [(sh_Y38 hS).2.2.2.2.2.2.2.2.1, zn_nat (show i < 2147483648 by omega)]
    refine c_ix (zn_in (by omega) (by decide)) (c_rf ((sh_Y38 hS).2.2.2.2.1 i (by omega)) ?_)
    rw [c_under (hc.2.2 i (by omega)).1]
    refine c_cl (c_some ?_)
    unfold untF
    refine c_if (fun q => ?_) (fun q => ?_)
    · rw [if_pos (e2.mp q)]
      exact c_some ⟨rfl, Fr_rf⟩
    · rw [if_neg (fun h => q (e2.mpr h))]
      exact c_some ⟨rfl, Fr_rf⟩
  | succ d ih =>
    intro k f b M Yk hk hf hb hv hr hn hc hcP
    obtain ⟨f, rfl⟩ : ∃ g, f = g + 1 := ⟨f - 1, by omega⟩
    have h6 := hv.2.1
    have hpl := pl_lt (hv.2.2 i (by omega)).1
    have e2 : (zn (pl_ (yd_a Yk i)) = zn g) ↔ pl_ (yd_a Yk i) = g := zn_inj (by omega) (by omega)
    have hsv := aStep_v (by rw [hn]; exact hvP) hv hr
    rw [t_X9_until_48]
    refine c_f (by rw [show (2000 : Int32) = zn 2000 from rfl, zn_le (by omega) (by omega)]; omega) (c_rf (sh_x3 hS) (c_rf (sh_Y38 hS).2.2.2.1 ?_))
    rw [(sh_Y38 hS).2.2.2.2.2.2.2.2.1, zn_nat (show i < 2147483648 by omega)]
    refine c_ix (zn_in (by omega) (by decide)) (c_rf ((sh_Y38 hS).2.2.2.2.1 i (by omega)) ?_)
    rw [c_under (hc.2.2 i (by omega)).1]
    refine c_cl (c_some ?_)
    unfold untF
    refine c_if (fun q => ?_) (fun q => ?_)
    · rw [if_pos (e2.mp q)]
      exact c_some ⟨rfl, Fr_rf⟩
    · rw [if_neg (fun h => q (e2.mpr h))]
      refine c_rf (sh_x5 hS) (c_rf (sh_x3 hS) (c_clm (c_step hA (sh_T hS) (sh_Y38 hS) (sh_R hS) (sh_P3 hS) (by omega) (by omega) hv hr (by omega) (by rw [hn]; exact hvP) hc hcP) ?_))
      rintro M1 _ ⟨g1, g2, g3⟩
      refine c_bd ?_
      rw [zn_one]
      refine c_mono (ih (k + 1) f (b + 1) M1 (aStep P Yk) (by omega) (by omega) (by omega) hsv.1 hsv.2 (by rw [aStep_n]; exact hn) g1 g2) ?_
      rintro M2 r ⟨q1, q2⟩
      exact ⟨q1, Fr_tr g3 q2⟩
theorem m_until (hA : Inj ad) (hS : Sh G ad) (hvP : vP (yd_n Y) P) {ru : Nat → Nat} {i c r : Nat} (hi : i < yd_n Y) (hc64 : c < 64) (hr64 : r < 64) : ∀ (d k f b : Nat) (M : mS) (Yk : aY), k + d = 2000 → d + 1 < f → b + d + 1 < 900000000 → vY b Yk → vR P Yk → yd_n Yk = yd_n Y → (∀ i, ru i = an_r (yd_a Yk i)) → mY ad M 92 Yk → mP ad M P (yd_n Y) ru → p_cl (m_X12_until_42 G (ad 70) (zn i) (zn c) (zn r) f M (zn k)) (fun M' x => x = untF P i (64 * r + c) d k Yk ∧ Fr (Bk ad 92 104) M M') := by
  intro d
  induction d with
  | zero =>
    intro k f b M Yk hk hf hb hv hr hn hru hc hP
    obtain ⟨f, rfl⟩ : ∃ g, f = g + 1 := ⟨f - 1, by omega⟩
    have hk : k = 2000 := by omega
    subst hk
    have h6 := hv.2.1
    have hvi := (hv.2.2 i (by omega)).1
    have hci := hc.2.2 i (by omega)
    have s92 := sh_S92 hS
    have hix : vp_in (zn i) 6 := zn_in (by omega) (by decide)
    have ei : (zn i).toNatClampNeg = i := zn_nat (by omega)
    have e1 : (zn (an_x (yd_a Yk i)) = zn c) ↔ an_x (yd_a Yk i) = c := zn_inj (by have := hvi.2.1; omega) (by omega)
    have e2 : (zn (an_y (yd_a Yk i)) = zn r) ↔ an_y (yd_a Yk i) = r := zn_inj (by have := hvi.2.2.1; omega) (by omega)
    have ep : pl_ (yd_a Yk i) = 64 * r + c ↔ an_x (yd_a Yk i) = c ∧ an_y (yd_a Yk i) = r := by have := hvi.2.1; unfold pl_; omega
    have next : pl_ (yd_a Yk i) ≠ 64 * r + c → p_cl (m_X12_until_79 G (ad 70) (zn i) (zn c) (zn r) (fun M v4 => m_X12_until_42 G (ad 70) (zn i) (zn c) (zn r) f M v4) M (zn 2000)) (fun M' x => x = untF P i (64 * r + c) 0 2000 Yk ∧ Fr (Bk ad 92 104) M M') := by
      intro hne
      unfold m_X12_until_79
      refine c_rf (sh_m14 hS) (c_clm (m_step hA s92 (sh_K hS) (sh_L hS) (by omega) hv hr (by omega) (by rw [hn]; exact hvP) hru hc (by rw [hn]; exact hP)) ?_)
      rintro M1 _ ⟨g1, g2, g3⟩
      refine c_bd ?_
      dsimp only
      rw [zn_one]
      obtain ⟨f, rfl⟩ : ∃ g, f = g + 1 := ⟨f - 1, by omega⟩
      rw [m_X12_until_42]
      refine c_t (by decide) (c_some ⟨?_, g3⟩)
      rw [untF, if_neg hne]
    rw [m_X12_until_42]
    refine c_f (by decide) (c_rf (sh_m14 hS) (c_rf (s6 s92) (c_ix (by rw [sn3 s92]; exact hix) ?_)))
    rw [ei, hci.1]
    refine c_if (fun q => ?_) (fun q => ?_)
    · refine c_rf (sh_m14 hS) (c_rf (s7 s92) (c_ix (by rw [sn4 s92]; exact hix) ?_))
      rw [hci.2.1]
      refine c_if (fun q2 => ?_) (fun q2 => ?_)
      · exact c_some ⟨by rw [untF, if_pos (ep.mpr ⟨e1.mp q, e2.mp q2⟩)], Fr_rf⟩
      · exact next (fun h => q2 (e2.mpr (ep.mp h).2))
    · exact next (fun h => q (e1.mpr (ep.mp h).1))
  | succ d ih =>
    intro k f b M Yk hk hf hb hv hr hn hru hc hP
    obtain ⟨f, rfl⟩ : ∃ g, f = g + 1 := ⟨f - 1, by omega⟩
    have h6 := hv.2.1
    have hvi := (hv.2.2 i (by omega)).1
    have hci := hc.2.2 i (by omega)
    have s92 := sh_S92 hS
    have hix : vp_in (zn i) 6 := zn_in (by omega) (by decide)
    have ei : (zn i).toNatClampNeg = i := zn_nat (by omega)
    have e1 : (zn (an_x (yd_a Yk i)) = zn c) ↔ an_x (yd_a Yk i) = c := zn_inj (by have := hvi.2.1; omega) (by omega)
    have e2 : (zn (an_y (yd_a Yk i)) = zn r) ↔ an_y (yd_a Yk i) = r := zn_inj (by have := hvi.2.2.1; omega) (by omega)
    have ep : pl_ (yd_a Yk i) = 64 * r + c ↔ an_x (yd_a Yk i) = c ∧ an_y (yd_a Yk i) = r := by have := hvi.2.1; unfold pl_; omega
    have hsv := aStep_v (by rw [hn]; exact hvP) hv hr
    have next : pl_ (yd_a Yk i) ≠ 64 * r + c → p_cl (m_X12_until_79 G (ad 70) (zn i) (zn c) (zn r) (fun M v4 => m_X12_until_42 G (ad 70) (zn i) (zn c) (zn r) f M v4) M (zn k)) (fun M' x => x = untF P i (64 * r + c) (d + 1) k Yk ∧ Fr (Bk ad 92 104) M M') := by
      intro hne
      unfold m_X12_until_79
      refine c_rf (sh_m14 hS) (c_clm (m_step hA s92 (sh_K hS) (sh_L hS) (by omega) hv hr (by omega) (by rw [hn]; exact hvP) hru hc (by rw [hn]; exact hP)) ?_)
      rintro M1 _ ⟨g1, g2, g3⟩
      refine c_bd ?_
      dsimp only
      rw [zn_one]
      rw [hn] at g2
      refine c_mono (ih (k + 1) f (b + 1) M1 (aStep P Yk) (by omega) (by omega) (by omega) hsv.1 hsv.2 (by rw [aStep_n]; exact hn) (fun i => by rw [aStep_r]; exact hru i) g1 g2) ?_
      rintro M2 x ⟨q1, q2⟩
      refine ⟨?_, Fr_tr g3 q2⟩
      rw [untF, if_neg hne]
      exact q1
    rw [m_X12_until_42]
    refine c_f (by rw [show (2000 : Int32) = zn 2000 from rfl, zn_lt (by omega) (by omega)]; omega) (c_rf (sh_m14 hS) (c_rf (s6 s92) (c_ix (by rw [sn3 s92]; exact hix) ?_)))
    rw [ei, hci.1]
    refine c_if (fun q => ?_) (fun q => ?_)
    · refine c_rf (sh_m14 hS) (c_rf (s7 s92) (c_ix (by rw [sn4 s92]; exact hix) ?_))
      rw [hci.2.1]
      refine c_if (fun q2 => ?_) (fun q2 => ?_)
      · exact c_some ⟨by rw [untF, if_pos (ep.mpr ⟨e1.mp q, e2.mp q2⟩)], Fr_rf⟩
      · exact next (fun h => q2 (e2.mpr (ep.mp h).2))
    · exact next (fun h => q (e1.mpr (ep.mp h).1))
theorem ok_17 (hA : Inj ad) (hS : Sh G ad) (hG : wt G) (h70 : ad 70 ∈ gL G) (hv : vY b Y) (hb : b < 800000000) (hr : vR P Y) (hvP : vP (yd_n Y) P) (hc : CA ad M Y P T tl ea) (hm : MA ad M Y P T tl ea) (H : ∀ M', CA ad M' Y P T tl ea → MA ad M' Y P T tl ea → post G M') {c1 c2 c3 : Int32} : fc_17 G M (ad 0) (ad 70) (ad 105) c1 c2 c3 post := by
  have hn := hv.2.1
  unfold fc_17 m_L_until
  by_cases h : vp_in c1 (yd_n Y) ∧ (vp_in c2 64 ∧ vp_in c3 64)
  · obtain ⟨i, k1, k2, rfl⟩ := in_ex h.1
    obtain ⟨c, k3, k4, rfl⟩ := in_ex h.2.1
    obtain ⟨r, k5, k6, rfl⟩ := in_ex h.2.2
    refine fin_val (Y' := Y) (v := untF P i (64 * r + c) 2000 0 Y) hA hS hn hm ?_ ?_ H
    · unfold t_X9_until
      rw [c_isAnt_t hS hc.1.2.1.1 hn h.1]
      refine c_cl (c_some (c_f (by decide) ?_))
      rw [c_isStone_t h.2.1 h.2.2]
      refine c_cl (c_some (c_f (by decide) (c_bd (c_rf (sh_x3 hS) (c_rf (sh_x2 hS) (c_clm (c_try hA hS hv hc) ?_))))))
      rintro M1 _ ⟨g1, g2, g3⟩
      rw [zrc]
      refine c_mono (c_until hA hS hvP k1 (by omega) 2000 0 fu b M1 Y (by omega) (by unfold fu; omega) (by omega) hv hr rfl g1 g2.2.1) ?_
      rintro M2 x ⟨rfl, g4⟩
      exact ⟨rfl, CA_trial hA hn g2 g4, SB_0 (Fr_tr g3 g4) (by omega)⟩
    · intro M2 hm2
      have e := m_tell (v := 0) hA hm2
      unfold m_X12_until
      refine c_wI ?_
      rw [m_isAnt_t hS e.2.2.1.2.1.1.2.1 hn h.1]
      refine c_cl (c_some (c_f (by decide) ?_))
      rw [m_isStone_t h.2.1 h.2.2]
      refine c_cl (c_some (c_f (by decide) (c_rf (sh_m14 hS) (c_rf (sh_m13 hS) (c_clm (m_try hA hS hG h70 hv e.2.2.1) ?_)))))
      rintro M1 x ⟨rfl, g1, g2, g3⟩
      refine c_ck (st92 hS hG h70) (c_mono (m_until hA hS hvP k1 k3 k5 2000 0 fu b M1 Y (by omega) (by unfold fu; omega) (by omega) hv hr rfl (fun _ => rfl) g1 g2.2.1) ?_)
      rintro M3 x ⟨rfl, g4⟩
      exact ⟨by rw [Fr_I hA g4 (by omega), Fr_I hA g3 (by omega)]; exact e.1, rfl, MA_Fr hA g2 g4 (by omega), Fr_tr e.2.2.2 (Fr_tr (Fr_sub g3 (by omega) (by omega)) (Fr_sub g4 (by omega) (by omega)))⟩
  · refine fin_exc (E := "java/lang/IndexOutOfBoundsException") (code := 1) hA hS hn hm hc ?_ (fun _ => rfl) (by decide) ?_ H
    · unfold t_X9_until t_X9_until_16
      by_cases h1 : vp_in c1 (yd_n Y)
      · rw [c_isAnt_t hS hc.1.2.1.1 hn h1]
        refine c_cl (c_some (c_f (by decide) ?_))
        rw [c_isStone_f (fun q => h ⟨h1, q⟩)]
        exact c_cl (c_some (c_t rfl (c_some ⟨rfl, rfl⟩)))
      · rw [c_isAnt_f hS hc.1.2.1.1 hn h1]
        exact c_cl (c_some (c_t rfl (c_some ⟨rfl, rfl⟩)))
    · have e := m_tell (v := 0) hA hm
      unfold m_X12_until m_X12_until_21
      refine c_wI ?_
      by_cases h1 : vp_in c1 (yd_n Y)
      · rw [m_isAnt_t hS e.2.2.1.2.1.1.2.1 hn h1]
        refine c_cl (c_some (c_f (by decide) ?_))
        rw [m_isStone_f (fun q => h ⟨h1, q⟩)]
        exact c_cl (c_some (c_t rfl (c_cl (c_some (c_some rfl)))))
      · rw [m_isAnt_f hS e.2.2.1.2.1.1.2.1 hn h1]
        exact c_cl (c_some (c_t rfl (c_cl (c_some (c_some rfl)))))
theorem c_found (hA : Inj ad) (hS : Sh G ad) (hvP : vP (yd_n Y) P) : ∀ (d k f b : Nat) (M : mS) (Yk : aY), k + d = 2000 → d < f → b + d < 900000000 → vY b Yk → vR P Yk → yd_n Yk = yd_n Y → cY ad M 38 Yk → cP ad M 3 P → p_cl (m_X9_found_13 G (ad 0) f M (zn k)) (fun M' r => r = fndF P d k Yk ∧ Fr (SB ad 38) M M') := by
  intro d
  induction d with
  | zero =>
    intro k f b M Yk hk hf hb hv hr hn hc hcP
    obtain ⟨f, rfl⟩ : ∃ g, f = g + 1 := ⟨f - 1, by omega⟩
    have hk : k = 2000 := by omega
    subst hk
    rw [m_X9_found_13]
    refine c_t (Int32.le_refl _) (c_rf (sh_x3 hS) (c_clm (cY_hw hA (sh_Y38 hS) hv (by omega) hc) ?_))
    rintro M1 r ⟨rfl, g1, g2⟩
    have hF := SB_y (y := 38) g2 (by omega) (by omega)
    unfold fndF
    cases hh : hwB (yd_a Yk) (yd_n Yk) with
    | true => exact c_f (by decide) (c_some ⟨rfl, hF⟩)
    | false => exact c_t (by decide) (c_some ⟨rfl, hF⟩)
  | succ d ih =>
    intro k f b M Yk hk hf hb hv hr hn hc hcP
    obtain ⟨f, rfl⟩ : ∃ g, f = g + 1 := ⟨f - 1, by omega⟩
    have hsv := aStep_v (by rw [hn]; exact hvP) hv hr
    rw [m_X9_found_13]
    refine c_f (by rw [show (2000 : Int32) = zn 2000 from rfl, zn_le (by omega) (by omega)]; omega) (c_rf (sh_x3 hS) (c_clm (cY_hw hA (sh_Y38 hS) hv (by omega) hc) ?_))
    rintro M1 r ⟨rfl, g1, g2⟩
    have hF := SB_y (y := 38) g2 (by omega) (by omega)
    unfold fndF
    cases hh : hwB (yd_a Yk) (yd_n Yk) with
    | true => exact c_f (by decide) (c_some ⟨rfl, hF⟩)
    | false =>
      refine c_t (by decide) (c_rf (sh_x5 hS) (c_rf (sh_x3 hS) (c_clm (c_step hA (sh_T hS) (sh_Y38 hS) (sh_R hS) (sh_P3 hS) (by omega) (by omega) hv hr (by omega) (by rw [hn]; exact hvP) g1 (cP_SB hA hcP hF (by omega) (by omega))) ?_)))
      rintro M2 _ ⟨g3, g4, g5⟩
      refine c_bd ?_
      rw [zn_one]
      refine c_mono (ih (k + 1) f (b + 1) M2 (aStep P Yk) (by omega) (by omega) (by omega) hsv.1 hsv.2 (by rw [aStep_n]; exact hn) g3 g4) ?_
      rintro M3 r ⟨q1, q2⟩
      exact ⟨q1, Fr_tr hF (Fr_tr g5 q2)⟩
theorem m_found (hA : Inj ad) (hS : Sh G ad) (hvP : vP (yd_n Y) P) {ru : Nat → Nat} : ∀ (d k f b : Nat) (M : mS) (Yk : aY), k + d = 2000 → d + 1 < f → b + d + 1 < 900000000 → vY b Yk → vR P Yk → yd_n Yk = yd_n Y → (∀ i, ru i = an_r (yd_a Yk i)) → mY ad M 92 Yk → mP ad M P (yd_n Y) ru → p_cl (m_X12_found_19 G (ad 70) f M (zn k)) (fun M' x => x = fndF P d k Yk ∧ Fr (Bk ad 92 104) M M') := by
  intro d
  induction d with
  | zero =>
    intro k f b M Yk hk hf hb hv hr hn hru hc hP
    obtain ⟨f, rfl⟩ : ∃ g, f = g + 1 := ⟨f - 1, by omega⟩
    have hk : k = 2000 := by omega
    subst hk
    have s92 := sh_S92 hS
    rw [m_X12_found_19]
    refine c_f (by decide) (c_rf (sh_m14 hS) ?_)
    rw [m_hw s92 (sh_K hS) hv (by omega) (by rw [hn]; exact hP.1.2.1) hc]
    refine c_cl (c_some ?_)
    unfold fndF
    cases hh : hwB (yd_a Yk) (yd_n Yk) with
    | true => exact c_f (by decide) (c_some ⟨rfl, Fr_rf⟩)
    | false =>
      refine c_t (by decide) (c_rf (sh_m14 hS) (c_clm (m_step hA s92 (sh_K hS) (sh_L hS) (by omega) hv hr (by omega) (by rw [hn]; exact hvP) hru hc (by rw [hn]; exact hP)) ?_))
      rintro M1 _ ⟨g1, g2, g3⟩
      refine c_bd ?_
      rw [zn_one]
      obtain ⟨f, rfl⟩ : ∃ g, f = g + 1 := ⟨f - 1, by omega⟩
      rw [m_X12_found_19]
      exact c_t (by decide) (c_some ⟨rfl, g3⟩)
  | succ d ih =>
    intro k f b M Yk hk hf hb hv hr hn hru hc hP
    obtain ⟨f, rfl⟩ : ∃ g, f = g + 1 := ⟨f - 1, by omega⟩
    have hsv := aStep_v (by rw [hn]; exact hvP) hv hr
    have s92 := sh_S92 hS
    rw [m_X12_found_19]
    refine c_f (by rw [show (2000 : Int32) = zn 2000 from rfl, zn_lt (by omega) (by omega)]; omega) (c_rf (sh_m14 hS) ?_)
    rw [m_hw s92 (sh_K hS) hv (by omega) (by rw [hn]; exact hP.1.2.1) hc]
    refine c_cl (c_some ?_)
    unfold fndF
    cases hh : hwB (yd_a Yk) (yd_n Yk) with
    | true => exact c_f (by decide) (c_some ⟨rfl, Fr_rf⟩)
    | false =>
      refine c_t (by decide) (c_rf (sh_m14 hS) (c_clm (m_step hA s92 (sh_K hS) (sh_L hS) (by omega) hv hr (by omega) (by rw [hn]; exact hvP) hru hc (by rw [hn]; exact hP)) ?_))
      rintro M1 _ ⟨g1, g2, g3⟩
      refine c_bd ?_
      rw [zn_one]
      rw [hn] at g2
      refine c_mono (ih (k + 1) f (b + 1) M1 (aStep P Yk) (by omega) (by omega) (by omega) hsv.1 hsv.2 (by rw [aStep_n]; exact hn) (fun i => by rw [aStep_r]; exact hru i) g1 g2) ?_
      rintro M2 x ⟨q1, q2⟩
      exact ⟨q1, Fr_tr g3 q2⟩
theorem ok_18 (hA : Inj ad) (hS : Sh G ad) (hG : wt G) (h70 : ad 70 ∈ gL G) (hv : vY b Y) (hb : b < 800000000) (hr : vR P Y) (hvP : vP (yd_n Y) P) (hc : CA ad M Y P T tl ea) (hm : MA ad M Y P T tl ea) (H : ∀ M', CA ad M' Y P T tl ea → MA ad M' Y P T tl ea → post G M') : fc_18 G M (ad 0) (ad 70) (ad 105) post := by
  have hn := hv.2.1
  unfold fc_18 m_X9_found
  refine c_rf (sh_x3 hS) (c_rf (sh_x2 hS) (c_clm (c_try hA hS hv hc) ?_))
  rintro M1 _ ⟨g1, g2, g3⟩
  refine c_mono (c_found hA hS hvP 2000 0 fu b M1 Y (by omega) (by unfold fu; omega) (by omega) hv hr rfl g1 g2.2.1) ?_
  rintro M2 x ⟨rfl, g4⟩
  have hc2 := CA_trial hA hn g2 g4
  have hF : Fr (Bk ad 0 70) M M2 := SB_0 (Fr_tr g3 g4) (by omega)
  have e := m_tell (v := 0) hA (MA_Fr hA hm hF (by omega))
  unfold m_X12_found
  refine c_wI (c_rf (sh_m14 hS) (c_rf (sh_m13 hS) (c_clm (m_try hA hS hG h70 hv e.2.2.1) ?_)))
  rintro M3 x ⟨rfl, g5, g6, g7⟩
  refine c_ck (st92 hS hG h70) (c_mono (m_found hA hS hvP 2000 0 fu b M3 Y (by omega) (by unfold fu; omega) (by omega) hv hr rfl (fun _ => rfl) g5 g6.2.1) ?_)
  rintro M4 x ⟨rfl, g8⟩
  exact ⟨fun _ => H M4 (CA_Fr hA hn (CA_Fr hA hn (CA_Fr hA hn hc2 e.2.2.2 (by omega)) g7 (by omega)) g8 (by omega)) (MA_Fr hA g6 g8 (by omega)), fun q => q rfl⟩
theorem c_advise (hA : Inj ad) (hS : Sh G ad) (hv : vY b Y) (hr : vR P Y) (hvP : vP (yd_n Y) P) {t : Nat} (ht : t ≤ 300) (hb : b < 800000000) : ∀ (d i f fw : Nat) (best : Int32) (M : mS), i + d = 8 → d < f → fw ≤ 4096 → CA ad M Y P T tl ea → p_cl (t_X9_advise_58 G (ad 0) (zn t) f M (zn fw) best (zn (8 * i))) (fun M' r => r = .inl (advF P t Y d i best fw) ∧ CA ad M' Y P T tl ea ∧ Fr (SB ad 38) M M') := by
  intro d
  induction d with
  | zero =>
    intro i f fw best M hi hf hfw hc
    obtain ⟨f, rfl⟩ : ∃ g, f = g + 1 := ⟨f - 1, by omega⟩
    rw [t_X9_advise_58]
    exact c_t (by rw [show (64 : Int32) = zn 64 from rfl, zn_le (by omega) (by omega)]; omega) (c_some ⟨rfl, hc, Fr_rf⟩)
  | succ d ih =>
    intro i f fw best M hi hf hfw hc
    obtain ⟨f, rfl⟩ : ∃ g, f = g + 1 := ⟨f - 1, by omega⟩
    have hn := hv.2.1
    have hvw : vY b (aWash (8 * i) (8 * i + 7) Y) := ⟨cWash_lt hv.1, hv.2⟩
    rw [t_X9_advise_58]
    refine c_f (by rw [show (64 : Int32) = zn 64 from rfl, zn_le (by omega) (by omega)]; omega) (c_rf (sh_x3 hS) (c_rf (sh_x2 hS) (c_clm (c_try hA hS hv hc) ?_)))
    rintro M1 _ ⟨g1, g2, g3⟩
    rw [show (zn (8 * i) + 8) - 1 = zn (8 * i + 7) by rw [show (8 : Int32) = zn 8 from rfl, zn_add, show (1 : Int32) = zn 1 from rfl, zn_sub (by omega)]; congr 1]
    refine c_rf (sh_x3 hS) (c_clm (cY_wash hA (sh_Y38 hS) hv g1 (r := 8 * i) (t := 8 * i + 7) (by omega) (by omega)) ?_)
    rintro M2 _ ⟨-, g4, g5⟩
    have hF2 := SB_y (y := 38) g5 (by omega) (by omega)
    have g6 := CA_trial hA hn g2 hF2
    refine c_rf (sh_x5 hS) (c_rf (sh_x3 hS) (c_clm (c_steps hA (sh_T hS) (sh_Y38 hS) (sh_R hS) (sh_P3 hS) (by omega) (by omega) hvw hr hvP (t := t) (by omega) (by omega) g4 g6.2.1) ?_))
    rintro M3 _ ⟨g7, g8, g9⟩
    have g10 := CA_trial hA hn g6 g9
    have hF3 := Fr_tr g3 (Fr_tr hF2 g9)
    refine c_rf (sh_x3 hS) ?_
    rw [c_dark (sh_Y38 hS) g7.1]
    refine c_cl (c_some ?_)
    have hd : dk (yd_c (aSteps P (aWash (8 * i) (8 * i + 7) Y) t)) ≤ 4096 := dk_le
    have e2 : (zn fw ≤ zn (dk (yd_c (aSteps P (aWash (8 * i) (8 * i + 7) Y) t)))) ↔ ¬ advD P t Y i < fw := by
      rw [zn_le (by omega) (by omega)]
      unfold advD
      omega
    have e8 : zn (8 * i) + 8 = zn (8 * (i + 1)) := by rw [show (8 : Int32) = zn 8 from rfl, zn_add]; congr 1
    refine c_if (fun q => ?_) (fun q => ?_)
    · unfold t_X9_advise_127
      refine c_bd ?_
      dsimp only
      rw [e8]
      refine c_mono (ih (i + 1) f fw best M3 (by omega) (by omega) hfw g10) ?_
      rintro M4 r ⟨q1, q2, q3⟩
      refine ⟨?_, q2, Fr_tr hF3 q3⟩
      rw [advF, if_neg (e2.mp q)]
      exact q1
    · refine c_rf (sh_x3 hS) ?_
      rw [c_dark (sh_Y38 hS) g7.1]
      unfold t_X9_advise_127
      refine c_cl (c_some (c_bd ?_))
      dsimp only
      rw [e8]
      refine c_mono (ih (i + 1) f _ (zn (8 * i)) M3 (by omega) (by omega) hd g10) ?_
      rintro M4 r ⟨q1, q2, q3⟩
      refine ⟨?_, q2, Fr_tr hF3 q3⟩
      rw [advF, if_pos (Decidable.not_not.mp (fun h => q (e2.mpr h)))]
      exact q1
theorem m_advise (hA : Inj ad) (hS : Sh G ad) (hG : wt G) (h70 : ad 70 ∈ gL G) (hv : vY b Y) (hr : vR P Y) (hvP : vP (yd_n Y) P) {t : Nat} (ht : t ≤ 300) (hb : b < 800000000) : ∀ (d i f fw : Nat) (best : Int32) (M : mS), i + d = 8 → d < f → fw ≤ 4096 → MA ad M Y P T tl ea → p_cl (m_X12_advise_46 G (ad 70) (zn t) f M best (zn fw) (zn (8 * i))) (fun M' r => r = advF P t Y d i best fw ∧ MA ad M' Y P T tl ea ∧ Fr (Bk ad 92 104) M M') := by
  intro d
  induction d with
  | zero =>
    intro i f fw best M hi hf hfw hm
    obtain ⟨f, rfl⟩ : ∃ g, f = g + 1 := ⟨f - 1, by omega⟩
    rw [m_X12_advise_46]
    exact c_t (by rw [show (64 : Int32) = zn 64 from rfl, zn_le (by omega) (by omega)]; omega) (c_some ⟨rfl, hm, Fr_rf⟩)
  | succ d ih =>
    intro i f fw best M hi hf hfw hm
    obtain ⟨f, rfl⟩ : ∃ g, f = g + 1 := ⟨f - 1, by omega⟩
    have hn := hv.2.1
    have s92 := sh_S92 hS
    have hvw : vY b (aWash (8 * i) (8 * i + 7) Y) := ⟨cWash_lt hv.1, hv.2⟩
    rw [m_X12_advise_46]
    refine c_f (by rw [show (64 : Int32) = zn 64 from rfl, zn_le (by omega) (by omega)]; omega) (c_rf (sh_m14 hS) (c_rf (sh_m13 hS) (c_clm (m_try hA hS hG h70 hv hm) ?_)))
    rintro M1 x ⟨rfl, g1, g2, g3⟩
    rw [show zn (8 * i) + 7 = zn (8 * i + 7) by rw [show (7 : Int32) = zn 7 from rfl, zn_add]]
    refine c_ck (st92 hS hG h70) (c_clm (mY_wash hA s92 hv g1 (r := 8 * i) (t := 8 * i + 7) (by omega) (by omega)) ?_)
    rintro M2 _ ⟨-, g4, g5⟩
    have g6 := MA_Fr hA g2 g5 (by omega)
    refine c_rf (sh_m14 hS) (c_clm (m_steps hA s92 (sh_K hS) (sh_L hS) (by omega) hvw hr hvP (fun _ => rfl) (t := t) (by omega) (by omega) g4 g6.2.1) ?_)
    rintro M3 x ⟨rfl, g7, g8⟩
    have g9 := MA_Fr hA g6 g8 (by omega)
    have hF3 : Fr (Bk ad 92 104) M M3 := Fr_tr g3 (Fr_tr (Fr_sub g5 (by omega) (by omega)) (Fr_sub g8 (by omega) (by omega)))
    refine c_ck (st92 hS hG h70) ?_
    rw [m_dark s92 g7.1]
    refine c_cl (c_some ?_)
    have hd : dk (yd_c (aSteps P (aWash (8 * i) (8 * i + 7) Y) t)) ≤ 4096 := dk_le
    have e2 : (zn (dk (yd_c (aSteps P (aWash (8 * i) (8 * i + 7) Y) t))) < zn fw) ↔ advD P t Y i < fw := zn_lt (by omega) (by omega)
    have e8 : zn (8 * i) + 8 = zn (8 * (i + 1)) := by rw [show (8 : Int32) = zn 8 from rfl, zn_add]; congr 1
    refine c_if (fun q => ?_) (fun q => ?_)
    · unfold m_X12_advise_103
      refine c_bd ?_
      dsimp only
      rw [e8]
      refine c_mono (ih (i + 1) f _ (zn (8 * i)) M3 (by omega) (by omega) hd g9) ?_
      rintro M4 r ⟨q1, q2, q3⟩
      refine ⟨?_, q2, Fr_tr hF3 q3⟩
      rw [advF, if_pos (e2.mp q)]
      exact q1
    · unfold m_X12_advise_103
      refine c_bd ?_
      dsimp only
      rw [e8]
      refine c_mono (ih (i + 1) f fw best M3 (by omega) (by omega) hfw g9) ?_
      rintro M4 r ⟨q1, q2, q3⟩
      refine ⟨?_, q2, Fr_tr hF3 q3⟩
      rw [advF, if_neg (fun h => q (e2.mpr h))]
      exact q1
theorem ok_19 (hA : Inj ad) (hS : Sh G ad) (hG : wt G) (h70 : ad 70 ∈ gL G) (hv : vY b Y) (hb : b < 700000000) (hr : vR P Y) (hvP : vP (yd_n Y) P) (hc : CA ad M Y P T tl ea) (hm : MA ad M Y P T tl ea) (H : ∀ M', CA ad M' Y P T tl ea → MA ad M' Y P T tl ea → post G M') {c1 : Int32} : fc_19 G M (ad 0) (ad 70) (ad 105) c1 post := by
  have hn := hv.2.1
  have e300 : (300 : Int32) = zn 300 := rfl
  unfold fc_19 m_L_advise
  by_cases h : ¬ c1 < 1 ∧ ¬ zn 300 < c1
  · obtain ⟨t, k1, k2, rfl⟩ := st_ex (by decide) h.1 h.2
    refine fin_val (Y' := Y) (v := advF P t Y 8 0 (-1) (dk (yd_c (aSteps P Y t)))) hA hS hn hm ?_ ?_ H
    · unfold t_X9_advise
      refine c_f h.1 (c_t (Int32.not_lt.mp h.2) (c_rf (sh_x3 hS) (c_rf (sh_x2 hS) (c_clm (c_try hA hS hv hc) ?_))))
      rintro M1 _ ⟨g1, g2, g3⟩
      refine c_rf (sh_x5 hS) (c_rf (sh_x3 hS) (c_clm (c_steps hA (sh_T hS) (sh_Y38 hS) (sh_R hS) (sh_P3 hS) (by omega) (by omega) hv hr hvP (t := t) (by omega) (by omega) g1 g2.2.1) ?_))
      rintro M2 _ ⟨g4, g5, g6⟩
      refine c_rf (sh_x3 hS) ?_
      rw [c_dark (sh_Y38 hS) g4.1]
      refine c_cl (c_some (c_mono (c_advise hA hS hv hr hvP k2 (by omega) 8 0 fu (dk (yd_c (aSteps P Y t))) (-1) M2 (by omega) (by unfold fu; omega) dk_le (CA_trial hA hn g2 g6)) ?_))
      rintro M3 r ⟨q1, q2, q3⟩
      exact ⟨q1, q2, SB_0 (Fr_tr g3 (Fr_tr g6 q3)) (by omega)⟩
    · intro M2 hm2
      have e := m_tell (v := 0) hA hm2
      unfold m_X12_advise
      refine c_wI ?_
      rw [m_isIn, e300, if_neg (fun q => q.elim h.1 h.2)]
      refine c_cl (c_some (c_f (by decide) (c_rf (sh_m14 hS) (c_rf (sh_m13 hS) (c_clm (m_try hA hS hG h70 hv e.2.2.1) ?_)))))
      rintro M1 r ⟨rfl, g1, g2, g3⟩
      refine c_ck (st92 hS hG h70) (c_clm (m_steps hA (sh_S92 hS) (sh_K hS) (sh_L hS) (by omega) hv hr hvP (fun _ => rfl) (t := t) (by omega) (by omega) g1 g2.2.1) ?_)
      rintro M3 r ⟨rfl, g4, g5⟩
      refine c_ck (st92 hS hG h70) ?_
      rw [m_dark (sh_S92 hS) g4.1]
      refine c_cl (c_some (c_mono (m_advise hA hS hG h70 hv hr hvP k2 (by omega) 8 0 fu (dk (yd_c (aSteps P Y t))) (-1) M3 (by omega) (by unfold fu; omega) dk_le (MA_Fr hA g2 g5 (by omega))) ?_))
      rintro M4 r ⟨q1, q2, q3⟩
      exact ⟨by rw [Fr_I hA q3 (by omega), Fr_I hA g5 (by omega), Fr_I hA g3 (by omega)]; exact e.1, q1, q2, Fr_tr e.2.2.2 (Fr_tr (Fr_sub g3 (by omega) (by omega)) (Fr_tr (Fr_sub g5 (by omega) (by omega)) (Fr_sub q3 (by omega) (by omega))))⟩
  · refine fin_exc (E := "java/lang/IllegalArgumentException") (code := 1) hA hS hn hm hc ?_ (fun _ => rfl) (by decide) ?_ H
    · unfold t_X9_advise t_X9_advise_12
      exact c_if (fun q => c_some ⟨rfl, rfl⟩) (fun q => c_f (fun q2 => h ⟨q, Int32.not_lt.mpr q2⟩) (c_some ⟨rfl, rfl⟩))
    · unfold m_X12_advise
      refine c_wI ?_
      rw [m_isIn, e300, if_pos (by rcases Decidable.not_and_iff_not_or_not.mp h with q | q; exact Or.inl (Decidable.not_not.mp q); exact Or.inr (Decidable.not_not.mp q))]
      exact c_cl (c_some (c_t rfl (c_cl (c_some (c_some rfl)))))
end Steps
