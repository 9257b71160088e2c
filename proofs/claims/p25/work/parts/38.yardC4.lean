/-! the class's yards: copied, cleared, ants begun -/
section YardSpecs4
variable {G : gS} {ad : Nat → Nat} {M : mS} {y : Nat} {Y : aY} {c : Nat → Nat}
theorem cpy0_at {f g : Nat → Int32} {n k : Nat} (h : k < n) : cpy0 f g n k = f k := by
  unfold cpy0 va_cpy
  rw [if_pos (by omega)]
  congr 1
  omega
theorem c_copy_loop (hA : Inj ad) {z : Nat} (hS : YSh G ad y) (hSz : YSh G ad z) (hyz : y + 17 ≤ z ∨ z + 17 ≤ y) {b : Nat} (hv : vY b Y) : ∀ (d i f : Nat) (M : mS), i + d = yd_n Y → d < f → cYc ad M y (yd_c Y) → mI M (ad y) 4 = zn (yd_n Y) → cYa ad M y i (yd_a Y) → cYa ad M z (yd_n Y) (yd_a Y) → cYf ad M z Y → p_cl (m_X8_copyFrom_56 G (ad y) (ad z) f M (zn i)) (fun M' _ => cY ad M' y Y ∧ Fr (Bk ad y (y + 17)) M M') := by
  intro d
  induction d with
  | zero =>
    intro i f M hi hf hc h4 ha hz hzf
    obtain ⟨f, rfl⟩ : ∃ g, f = g + 1 := ⟨f - 1, by omega⟩
    have hi : i = yd_n Y := by omega
    rw [m_X8_copyFrom_56, h4]
    refine c_t (by rw [hi]; exact Int32.le_refl _) ?_
    unfold m_X8_copyFrom_91
    have hne : ad z ≠ ad y := ad_ne hA (by omega)
    refine c_wI (c_wI (c_wI (c_wI (c_some ?_))))
    have hF : ∀ v1 v2 v3 v4 : Int32, Fr (Bk ad y (y + 1)) M (wI (wI (wI (wI M (ad y) 5 v1) (ad y) 6 v2) (ad y) 7 v3) (ad y) 8 v4) := fun v1 v2 v3 v4 => Fr_wI (Fr_wI (Fr_wI (Fr_wI Fr_rf (Bk_in (by omega) (by omega))) (Bk_in (by omega) (by omega))) (Bk_in (by omega) (by omega))) (Bk_in (by omega) (by omega))
    refine ⟨⟨cYc_Fr hA hc (hF _ _ _ _) (by omega), ?_, cYa_Fr hA (hi ▸ ha) (hF _ _ _ _) (by omega)⟩, Fr_sub (hF _ _ _ _) (by omega) (by omega)⟩
    obtain ⟨z4, z5, z6, z7, z8⟩ := hzf
    unfold cYf
    simp only [mI_wI, upd_at, hne, reduceIte, Nat.reduceEqDiff, h4, z5, z6, z7, z8]
    exact ⟨trivial, trivial, trivial, trivial, trivial⟩
  | succ d ih =>
    intro i f M hi hf hc h4 ha hz hzf
    obtain ⟨f, rfl⟩ : ∃ g, f = g + 1 := ⟨f - 1, by omega⟩
    have hn := hv.2.1
    rw [m_X8_copyFrom_56, h4]
    refine c_f (by rw [zn_le (by omega) (by omega)]; omega) (c_f (by rw [show (6 : Int32) = zn 6 from rfl, zn_le (by omega) (by omega)]; omega) (c_rf hS.2.2.2.1 (c_ix (by rw [hS.2.2.2.2.2.2.2.2.1]; exact zn_in (by omega) (by decide)) ?_)))
    rw [zn_nat (by omega)]
    refine c_rf (hS.2.2.2.2.1 i (by omega)) (c_rf hSz.2.2.2.1 (c_ix (by rw [hSz.2.2.2.2.2.2.2.2.1]; exact zn_in (by omega) (by decide)) (c_rf (hSz.2.2.2.2.1 i (by omega)) (c_clm (cA_copy hA (hS.2.2.2.2.2.2.2.2.2 i (by omega)) (hSz.2.2.2.2.2.2.2.2.2 i (by omega)) (by omega) (hz i (by omega)) (hv.2.2 i (by omega)).1) ?_))))
    rintro M1 _ ⟨h1, h2⟩
    refine c_bd ?_
    rw [zn_one]
    refine c_mono (ih (i + 1) f M1 (by omega) (by omega) (cYc_Fr hA hc h2 (by omega)) (by rw [Fr_I hA h2 (k := y) (by omega)]; exact h4) (fun k hk => ?_) (cYa_Fr hA hz h2 (by omega)) (cYf_Fr hA hzf h2 (by omega))) ?_
    · by_cases e : k = i
      · rw [e]; exact h1
      · exact cA_Fr hA (ha k (by omega)) h2 (by omega)
    · rintro M2 _ ⟨g1, g2⟩
      exact ⟨g1, Fr_tr (Fr_sub h2 (by omega) (by omega)) g2⟩
theorem cY_copy (hA : Inj ad) {z : Nat} (hS : YSh G ad y) (hSz : YSh G ad z) (hyz : y + 17 ≤ z ∨ z + 17 ≤ y) {b : Nat} (hv : vY b Y) (hc : cY ad M z Y) : p_cl (m_X8_copyFrom G M (ad y) (ad z)) (fun M' _ => cY ad M' y Y ∧ Fr (Bk ad y (y + 17)) M M') := by
  obtain ⟨⟨c1, c2, c3⟩, cf, ca⟩ := id hc
  unfold m_X8_copyFrom
  refine c_rf hSz.1 (c_rf hS.1 (c_ck (by rw [hSz.2.2.2.2.2.1, hS.2.2.2.2.2.1]; decide) (c_wC ?_)))
  refine c_rf hSz.2.1 (c_rf hS.2.1 (c_ck (by rw [hSz.2.2.2.2.2.2.1, hS.2.2.2.2.2.2.1]; decide) (c_wC ?_)))
  refine c_rf hSz.2.2.1 (c_rf hS.2.2.1 (c_ck (by rw [hSz.2.2.2.2.2.2.2.1, hS.2.2.2.2.2.2.2.1]; decide) (c_wC (c_wI ?_))))
  have k12 : ad (y + 1) ≠ ad (y + 2) := ad_ne hA (by omega)
  have k13 : ad (y + 1) ≠ ad (y + 3) := ad_ne hA (by omega)
  have k23 : ad (y + 2) ≠ ad (y + 3) := ad_ne hA (by omega)
  have k10 : ad (y + 1) ≠ ad y := ad_ne hA (by omega)
  have k20 : ad (y + 2) ≠ ad y := ad_ne hA (by omega)
  have k30 : ad (y + 3) ≠ ad y := ad_ne hA (by omega)
  have z2 : ad (z + 2) ≠ ad (y + 1) := ad_ne hA (by omega)
  have z3 : ad (z + 3) ≠ ad (y + 1) := ad_ne hA (by omega)
  have z32 : ad (z + 3) ≠ ad (y + 2) := ad_ne hA (by omega)
  have z01 : ad z ≠ ad (y + 1) := ad_ne hA (by omega)
  have z02 : ad z ≠ ad (y + 2) := ad_ne hA (by omega)
  have z03 : ad z ≠ ad (y + 3) := ad_ne hA (by omega)
  have hF : ∀ (f1 f2 f3 : Nat → Int32) (v : Int32), Fr (Bk ad y (y + 4)) M (wI (wC (wC (wC M (ad (y + 1)) f1) (ad (y + 2)) f2) (ad (y + 3)) f3) (ad y) 4 v) := fun _ _ _ _ => Fr_wI (Fr_wC (Fr_wC (Fr_wC Fr_rf (Bk_in (by omega) (by omega))) (Bk_in (by omega) (by omega))) (Bk_in (by omega) (by omega))) (Bk_in (by omega) (by omega))
  refine c_mono (c_copy_loop hA hS hSz hyz hv (yd_n Y) 0 fu _ (by omega) (by have := hv.2.1; unfold fu; omega) ⟨?_, ?_, ?_⟩ ?_ (fun k hk => by omega) (cYa_Fr hA ca (hF _ _ _ _) (by have := hv.2.1; omega)) (cYf_Fr hA cf (hF _ _ _ _) (by omega))) ?_
  · intro p hp
    simp only [mI_wI, mI_wC, k12, k13, k10, reduceIte]
    rw [cpy0_at (show p < Int32.toNatClampNeg 4096 from hp)]
    exact c1 p hp
  · intro r hr
    simp only [mI_wI, mI_wC, k23, k20, z2, reduceIte]
    rw [cpy0_at (show r < Int32.toNatClampNeg 64 from hr)]
    exact c2 r hr
  · intro v hw
    simp only [mI_wI, mI_wC, k30, z3, z32, reduceIte]
    rw [cpy0_at (show v < Int32.toNatClampNeg 6 from hw)]
    exact c3 v hw
  · simp only [mI_wI, mI_wC, upd_at, z01, z02, z03, reduceIte]
    exact cf.1
  · rintro M' _ ⟨h1, h2⟩
    exact ⟨h1, Fr_tr (Fr_sub (hF _ _ _ _) (by omega) (by omega)) h2⟩
def aY0 : aY := (fun _ => 0, 0, fun _ => an0, 0, 0, 0, 0)
theorem cn_0 {v : Nat} : ∀ k : Nat, cn (fun _ => 0) v k = if v = 0 then k else 0 := by
  intro k
  induction k with
  | zero => rw [cn]; split <;> rfl
  | succ k ih =>
    rw [cn, ih]
    by_cases h : v = 0
    · rw [if_pos h, if_pos h, if_pos h.symm]
    · rw [if_neg h, if_neg h, if_neg (Ne.symm h)]
theorem c_clear1 (hA : Inj ad) (hS : YSh G ad y) {Q : mS → Unit → Prop} : ∀ (d k f : Nat) (M : mS), k + d = 4096 → d < f → (∀ p, p < k → mI M (ad (y + 1)) p = 0) → (∀ M', Fr (Bk ad (y + 1) (y + 2)) M M' → (∀ p, p < 4096 → mI M' (ad (y + 1)) p = 0) → p_cl (m_X8_clear_24 G (ad y) fu M' 0) Q) → p_cl (m_X8_clear_2 G (ad y) f M (zn k)) Q := by
  intro d
  induction d with
  | zero =>
    intro k f M hk hf hp hq
    obtain ⟨f, rfl⟩ : ∃ g, f = g + 1 := ⟨f - 1, by omega⟩
    have hk : k = 4096 := by omega
    subst hk
    rw [m_X8_clear_2]
    exact c_t (Int32.le_refl _) (hq M Fr_rf hp)
  | succ d ih =>
    intro k f M hk hf hp hq
    obtain ⟨f, rfl⟩ : ∃ g, f = g + 1 := ⟨f - 1, by omega⟩
    rw [m_X8_clear_2]
    refine c_f (by rw [show (4096 : Int32) = zn 4096 from rfl, zn_le (by omega) (by omega)]; omega) (c_rf hS.1 (c_ix (by rw [hS.2.2.2.2.2.1]; exact zn_in (by omega) (by decide)) (c_wI (c_bd ?_))))
    rw [zn_nat (by omega), zn_one]
    have hF : Fr (Bk ad (y + 1) (y + 2)) M (wI M (ad (y + 1)) k 0) := Fr_wI Fr_rf (Bk_in (by omega) (by omega))
    refine ih (k + 1) f _ (by omega) (by omega) (fun p hp2 => ?_) (fun M' g1 g2 => hq M' (Fr_tr hF g1) g2)
    rw [mI_wI, if_pos rfl, upd_at]
    split
    · rfl
    · exact hp p (by omega)
theorem c_clear2 (hA : Inj ad) (hS : YSh G ad y) {Q : mS → Unit → Prop} : ∀ (d k f : Nat) (M : mS), k + d = 64 → d < f → (∀ p, p < k → mI M (ad (y + 2)) p = 0) → (∀ M', Fr (Bk ad (y + 2) (y + 3)) M M' → (∀ p, p < 64 → mI M' (ad (y + 2)) p = 0) → p_cl (m_X8_clear_45 G (ad y) fu M' 1) Q) → p_cl (m_X8_clear_24 G (ad y) f M (zn k)) Q := by
  intro d
  induction d with
  | zero =>
    intro k f M hk hf hp hq
    obtain ⟨f, rfl⟩ : ∃ g, f = g + 1 := ⟨f - 1, by omega⟩
    have hk : k = 64 := by omega
    subst hk
    rw [m_X8_clear_24]
    exact c_t (Int32.le_refl _) (hq M Fr_rf hp)
  | succ d ih =>
    intro k f M hk hf hp hq
    obtain ⟨f, rfl⟩ : ∃ g, f = g + 1 := ⟨f - 1, by omega⟩
    rw [m_X8_clear_24]
    refine c_f (by rw [show (64 : Int32) = zn 64 from rfl, zn_le (by omega) (by omega)]; omega) (c_rf hS.2.1 (c_ix (by rw [hS.2.2.2.2.2.2.1]; exact zn_in (by omega) (by decide)) (c_wI (c_bd ?_))))
    rw [zn_nat (by omega), zn_one]
    have hF : Fr (Bk ad (y + 2) (y + 3)) M (wI M (ad (y + 2)) k 0) := Fr_wI Fr_rf (Bk_in (by omega) (by omega))
    refine ih (k + 1) f _ (by omega) (by omega) (fun p hp2 => ?_) (fun M' g1 g2 => hq M' (Fr_tr hF g1) g2)
    rw [mI_wI, if_pos rfl, upd_at]
    split
    · rfl
    · exact hp p (by omega)
theorem c_clear3 (hA : Inj ad) (hS : YSh G ad y) : ∀ (d k f : Nat) (M : mS), k + d = 6 → d < f → 1 ≤ k → (∀ p, 1 ≤ p → p < k → mI M (ad (y + 3)) p = 0) → (∀ p, p < 4096 → mI M (ad (y + 1)) p = 0) → (∀ p, p < 64 → mI M (ad (y + 2)) p = 0) → p_cl (m_X8_clear_45 G (ad y) f M (zn k)) (fun M' _ => cY ad M' y aY0 ∧ Fr (Bk ad y (y + 4)) M M') := by
  intro d
  induction d with
  | zero =>
    intro k f M hk hf hk1 hp hs hr
    obtain ⟨f, rfl⟩ : ∃ g, f = g + 1 := ⟨f - 1, by omega⟩
    have hk : k = 6 := by omega
    subst hk
    have k10 : ad (y + 1) ≠ ad y := ad_ne hA (by omega)
    have k20 : ad (y + 2) ≠ ad y := ad_ne hA (by omega)
    have k30 : ad (y + 3) ≠ ad y := ad_ne hA (by omega)
    have k13 : ad (y + 1) ≠ ad (y + 3) := ad_ne hA (by omega)
    have k23 : ad (y + 2) ≠ ad (y + 3) := ad_ne hA (by omega)
    have k03 : ad y ≠ ad (y + 3) := ad_ne hA (by omega)
    rw [m_X8_clear_45]
    refine c_t (Int32.le_refl _) (c_rf hS.2.2.1 (c_ix (by rw [hS.2.2.2.2.2.2.2.1]; exact zn_in (a := 0) (by decide) (by decide)) (c_wI (c_wI (c_wI (c_wI (c_wI (c_wI (c_some ⟨⟨⟨?_, ?_, ?_⟩, ?_, fun i hi => by cases hi⟩, ?_⟩)))))))))
    · intro p hp2
      simp only [mI_wI, k10, k13, reduceIte]
      exact hs p hp2
    · intro r hr2
      simp only [mI_wI, k20, k23, reduceIte]
      rw [hr r hr2]
      show (0 : Int32) = zn (nz (fun _ => 0) (64 * r) 64)
      rw [nz_all0 64 (fun q _ _ => rfl)]
      rfl
    · intro v hv
      simp only [mI_wI, k30, reduceIte, upd_at, show Int32.toNatClampNeg 0 = 0 from rfl]
      show _ = zn (cn (fun _ => 0) v 4096)
      rw [cn_0]
      by_cases h : v = 0
      · rw [if_pos h, if_pos h]; rfl
      · rw [if_neg h, if_neg h, hp v (by omega) hv]; rfl
    · unfold cYf
      simp only [mI_wI, upd_at, reduceIte, Nat.reduceEqDiff]
      exact ⟨rfl, rfl, rfl, rfl, rfl⟩
    · exact Fr_wI (Fr_wI (Fr_wI (Fr_wI (Fr_wI (Fr_wI Fr_rf (Bk_in (by omega) (by omega))) (Bk_in (by omega) (by omega))) (Bk_in (by omega) (by omega))) (Bk_in (by omega) (by omega))) (Bk_in (by omega) (by omega))) (Bk_in (by omega) (by omega))
  | succ d ih =>
    intro k f M hk hf hk1 hp hs hr
    obtain ⟨f, rfl⟩ : ∃ g, f = g + 1 := ⟨f - 1, by omega⟩
    rw [m_X8_clear_45]
    refine c_f (by rw [show (6 : Int32) = zn 6 from rfl, zn_le (by omega) (by omega)]; omega) (c_rf hS.2.2.1 (c_ix (by rw [hS.2.2.2.2.2.2.2.1]; exact zn_in (by omega) (by decide)) (c_wI (c_bd ?_))))
    rw [zn_nat (by omega), zn_one]
    have hF : Fr (Bk ad (y + 3) (y + 4)) M (wI M (ad (y + 3)) k 0) := Fr_wI Fr_rf (Bk_in (by omega) (by omega))
    refine c_mono (ih (k + 1) f _ (by omega) (by omega) (by omega) (fun p hp1 hp2 => ?_) (fun p hp => ?_) (fun p hp => ?_)) ?_
    · rw [mI_wI, if_pos rfl, upd_at]
      split
      · rfl
      · exact hp p hp1 (by omega)
    · rw [Fr_I hA hF (k := y + 1) (by omega)]; exact hs p hp
    · rw [Fr_I hA hF (k := y + 2) (by omega)]; exact hr p hp
    · rintro M' _ ⟨g1, g2⟩
      exact ⟨g1, Fr_tr (Fr_sub hF (by omega) (by omega)) g2⟩
theorem cY_clear (hA : Inj ad) (hS : YSh G ad y) : p_cl (m_X8_clear G M (ad y)) (fun M' _ => cY ad M' y aY0 ∧ Fr (Bk ad y (y + 4)) M M') := by
  unfold m_X8_clear
  refine c_clear1 hA hS 4096 0 fu M (by omega) (by unfold fu; omega) (fun p hp => by omega) (fun M1 g1 g2 => ?_)
  refine c_clear2 hA hS 64 0 fu M1 (by omega) (by unfold fu; omega) (fun p hp => by omega) (fun M2 h1 h2 => ?_)
  refine c_mono (c_clear3 hA hS 5 1 fu M2 (by omega) (by unfold fu; omega) (by omega) (fun p hp => by omega) (fun p hp => by rw [Fr_I hA h1 (k := y + 1) (by omega)]; exact g2 p hp) h2) ?_
  rintro M' _ ⟨k1, k2⟩
  exact ⟨k1, Fr_tr (Fr_sub g1 (by omega) (by omega)) (Fr_tr (Fr_sub h1 (by omega) (by omega)) k2)⟩
def aBegin (Y : aY) : aY := (yd_c Y, yd_n Y + 1, fun k => if k = yd_n Y then an0 else yd_a Y k, yd_t Y, yd_m Y, yd_w Y, yd_k Y)
theorem cY_begin (hA : Inj ad) (hS : YSh G ad y) (hc : cY ad M y Y) (hn : yd_n Y ≤ 6) : p_cl (m_X8_beginAnt G M (ad y)) (fun M' r => (yd_n Y < 6 → r = 1 ∧ cY ad M' y (aBegin Y)) ∧ (yd_n Y = 6 → r = 0 ∧ M' = M) ∧ Fr (Bk ad y (y + 17)) M M') := by
  unfold m_X8_beginAnt
  rw [hc.2.1.1]
  refine c_if (fun k => ?_) (fun k => ?_)
  · rw [show (6 : Int32) = zn 6 from rfl, zn_lt (by omega) (by omega)] at k
    refine c_rf hS.2.2.2.1 (c_ix (by rw [hS.2.2.2.2.2.2.2.2.1]; exact zn_in (by omega) (by decide)) ?_)
    rw [zn_nat (by omega)]
    refine c_rf (hS.2.2.2.2.1 _ k) (c_clm (cA_clear hA) ?_)
    rintro M1 _ ⟨h1, h2⟩
    refine c_wI (c_ck (Or.inr rfl) (c_some ⟨fun _ => ⟨rfl, ?_⟩, fun h => by omega, ?_⟩))
    · have hF : ∀ v, Fr (Bk ad y (y + 1)) M1 (wI M1 (ad y) 4 v) := fun v => Fr_wI Fr_rf (Bk_in (by omega) (by omega))
      refine ⟨cYc_Fr hA (cYc_Fr hA hc.1 h2 (by omega)) (hF _) (by omega), ?_, fun i hi => ?_⟩
      · obtain ⟨f4, f5, f6, f7, f8⟩ := cYf_Fr hA hc.2.1 h2 (by omega)
        unfold cYf
        simp only [mI_wI, upd_at, reduceIte, Nat.reduceEqDiff, f4, zn_one]
        exact ⟨rfl, f5, f6, f7, f8⟩
      · show cA ad _ (y + 5 + 2 * i) (if i = yd_n Y then an0 else yd_a Y i)
        by_cases e : i = yd_n Y
        · rw [if_pos e, e]
          exact cA_Fr hA h1 (hF _) (by omega)
        · rw [if_neg e]
          have hi2 : i < yd_n Y + 1 := hi
          exact cA_Fr hA (cA_Fr hA (hc.2.2 i (by omega)) h2 (by omega)) (hF _) (by omega)
    · exact Fr_wI (Fr_sub h2 (by omega) (by omega)) (Bk_in (by omega) (by omega))
  · rw [show (6 : Int32) = zn 6 from rfl, zn_lt (by omega) (by omega)] at k
    exact c_ck (Or.inl rfl) (c_some ⟨fun h => by omega, fun _ => ⟨rfl, rfl⟩, Fr_rf⟩)
theorem c_latest (hS : YSh G ad y) (hc : cYf ad M y Y) (hn : yd_n Y ≤ 6) : m_X8_latestAnt G M (ad y) = some (M, ad (y + 5 + 2 * (yd_n Y - 1))) := by
  unfold m_X8_latestAnt
  rw [hc.1, hS.2.2.2.1]
  unfold o_rf
  dsimp only
  by_cases h : yd_n Y = 0
  · rw [h, if_pos (show zn 0 ≤ 0 from Int32.le_refl _)]
    unfold m_X8_latestAnt_21 o_ix o_rf
    rw [hS.2.2.2.2.2.2.2.2.1, if_neg (by decide), show Int32.toNatClampNeg 0 = 0 from rfl, hS.2.2.2.2.1 0 (by decide)]
  · rw [if_neg (by rw [show (0 : Int32) = zn 0 from rfl, zn_le (by omega) (by omega)]; omega), show zn (yd_n Y) - 1 = zn (yd_n Y - 1) from zn_sub (b := 1) (by omega)]
    unfold m_X8_latestAnt_21 o_ix o_rf
    rw [hS.2.2.2.2.2.2.2.2.1, if_neg (show ¬ (zn (yd_n Y - 1) < 0 ∨ 6 ≤ (zn (yd_n Y - 1)).toNatClampNeg) from zn_in (by omega) (by decide)), zn_nat (by omega), hS.2.2.2.2.1 _ (by omega)]
end YardSpecs4
