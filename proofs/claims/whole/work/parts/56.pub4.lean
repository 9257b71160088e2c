/-! count, mean, digest -/
def cntV (Y : aY) (P : aP) (tl w : Nat) : Int32 := if w = 0 then zn (yd_t Y) else if w = 1 then zn (pg_r P) else if w = 2 then zn (yd_n Y) else if w = 3 then zn (pg_o P) else if w = 10 then zn tl else zn (aTot Y w)
def dgC (Y : aY) (P : aP) (tl : Nat) : Nat → Int64
  | 0 => 911
  | w + 1 => dgC Y P tl w * 31 + Int32.toInt64 (cntV Y P tl w)
def dgR2 (P : aP) (r : Nat) (d : Int64) : Nat → Int64
  | 0 => d
  | c + 1 => dgR2 P r d c * 31 + Int32.toInt64 (zn (pg_t P r (c % pg_z P r)))
def dgR (P : aP) (d : Int64) : Nat → Int64
  | 0 => d
  | r + 1 => dgR2 P r (dgR P d r) 6
def dgA2 (A : aA) (d : Int64) : Nat → Int64
  | 0 => d
  | w + 1 => dgA2 A d w * 31 + Int32.toInt64 (anAns A w)
def dgA (a : Nat → aA) (d : Int64) : Nat → Int64
  | 0 => d
  | i + 1 => dgA2 (a i) (dgA a d i) 9
def dgS (c : Nat → Nat) (d : Int64) : Nat → Int64
  | 0 => d
  | p + 1 => dgS c d p * 31 + Int32.toInt64 (zn (c p))
def dgAll (Y : aY) (P : aP) (tl : Nat) : Int64 := dgS (yd_c Y) (dgA (yd_a Y) (dgR P (dgC Y P tl 11) (pg_r P)) (yd_n Y)) 4096
theorem nan_le {n : Nat} (h : n ≤ 20480) : (FP.ddiv (FP.i2d (zn n)) (4661225614328463360 : UInt64)) &&& 0x7fffffffffffffff ≤ 0x7ff0000000000000 := by
  have := nan_all (n / 144) (by omega) (n % 144) (by omega)
  rw [show 144 * (n / 144) + n % 144 = n by omega] at this
  exact of_decide_eq_true this
theorem totC_le {c : Nat → Nat} (hv : ∀ p, c p < 6) : ∀ k : Nat, totC c k ≤ 5 * k := by
  intro k
  induction k with
  | zero => exact Nat.le_refl _
  | succ k ih =>
    rw [totC]
    have := hv k
    omega
section Count
variable {G : gS} {ad : Nat → Nat} {M : mS} {Y : aY} {P : aP} {T : Nat → Nat} {tl b : Nat} {ea : Int32} {post : gS → mS → Prop}
theorem ok_20 (hA : Inj ad) (hS : Sh G ad) (hv : vY b Y) (hc : CA ad M Y P T tl ea) (hm : MA ad M Y P T tl ea) (H : ∀ M', CA ad M' Y P T tl ea → MA ad M' Y P T tl ea → post G M') : fc_20 G M (ad 0) (ad 70) (ad 105) post := by
  have hle : csum (yd_c Y) 6 ≤ 20480 := by
    have := totC_le hv.1 4096
    rw [tot_csum hv.1] at this
    omega
  have hF : Fr (Bk ad 70 71) M (wI M (ad 70) 0 0) := Fr_wI Fr_rf (Bk_in (by omega) (by omega))
  have hm2 := MA_th (v := 0) hA hm
  unfold fc_20 m_X9_mean m_X12_mean
  refine c_rf (sh_x2 hS) ?_
  rw [c_csum (sh_Y21 hS) hc.1.1]
  refine c_cl (c_some (c_ck (nan_le hle) (c_some (c_wI (c_rf (sh_m13 hS) ?_)))))
  rw [m_sum (sh_S80 hS) hm2.1.1 hv.1]
  refine c_cl (c_some (c_ck (nan_le hle) (c_some ?_)))
  have hp := H _ (CA_Fr hA hv.2.1 hc hF (by omega)) hm2
  exact ⟨fun _ => hp, fun q => ⟨fun q2 => absurd q2 q, fun _ => ⟨fun q2 => absurd q2 q, fun _ => hp⟩⟩⟩
theorem c_count (hS : Sh G ad) (hv : vY b Y) (hc : CA ad M Y P T tl ea) {w : Nat} (hw : w < 11) : m_X9_count G M (ad 0) (zn w) = some (M, cntV Y P tl w) := by
  obtain ⟨f4, f5, f6, f7, f8⟩ := id hc.1.2.1
  have ht : ∀ {w : Nat}, 4 ≤ w → w ≤ 9 → m_X8_total G M (ad 21) (zn w) = some (M, zn (aTot Y w)) := fun h1 h2 => c_total (sh_Y21 hS) hv hc.1 h1 h2
  refine cl_eq ?_
  unfold m_X9_count
  refine c_f (zn_nn (by omega)) (c_t (by rw [show (11 : Int32) = zn 11 from rfl, zn_lt (by omega) (by omega)]; exact hw) ?_)
  match w, hw with
  | 0, _ => exact c_t rfl (c_rf (sh_x2 hS) (c_some ⟨rfl, f5⟩))
  | 1, _ => exact c_f (by decide) (c_t rfl (c_rf (sh_x1 hS) (c_some ⟨rfl, hc.2.1.1.1⟩)))
  | 2, _ => exact c_f (by decide) (c_f (by decide) (c_t rfl (c_rf (sh_x2 hS) (c_some ⟨rfl, f4⟩))))
  | 3, _ => exact c_f (by decide) (c_f (by decide) (c_f (by decide) (c_t rfl (c_rf (sh_x1 hS) (c_some ⟨rfl, hc.2.1.1.2.1⟩)))))
  | 4, _ =>
    refine c_f (by decide) (c_f (by decide) (c_f (by decide) (c_f (by decide) (c_t rfl (c_rf (sh_x2 hS) ?_)))))
    rw [ht (by decide) (by decide)]
    exact c_cl (c_some (c_some ⟨rfl, rfl⟩))
  | 5, _ =>
    refine c_f (by decide) (c_f (by decide) (c_f (by decide) (c_f (by decide) (c_f (by decide) (c_t rfl (c_rf (sh_x2 hS) ?_))))))
    rw [ht (by decide) (by decide)]
    exact c_cl (c_some (c_some ⟨rfl, rfl⟩))
  | 6, _ =>
    refine c_f (by decide) (c_f (by decide) (c_f (by decide) (c_f (by decide) (c_f (by decide) (c_f (by decide) (c_t rfl (c_rf (sh_x2 hS) ?_)))))))
    rw [ht (by decide) (by decide)]
    exact c_cl (c_some (c_some ⟨rfl, rfl⟩))
  | 7, _ =>
    refine c_f (by decide) (c_f (by decide) (c_f (by decide) (c_f (by decide) (c_f (by decide) (c_f (by decide) (c_f (by decide) (c_t rfl (c_rf (sh_x2 hS) ?_))))))))
    rw [ht (by decide) (by decide)]
    exact c_cl (c_some (c_some ⟨rfl, rfl⟩))
  | 8, _ =>
    refine c_f (by decide) (c_f (by decide) (c_f (by decide) (c_f (by decide) (c_f (by decide) (c_f (by decide) (c_f (by decide) (c_f (by decide) (c_t rfl (c_rf (sh_x2 hS) ?_)))))))))
    rw [ht (by decide) (by decide)]
    exact c_cl (c_some (c_some ⟨rfl, rfl⟩))
  | 9, _ =>
    refine c_f (by decide) (c_f (by decide) (c_f (by decide) (c_f (by decide) (c_f (by decide) (c_f (by decide) (c_f (by decide) (c_f (by decide) (c_f (by decide) (c_t rfl (c_rf (sh_x2 hS) ?_))))))))))
    rw [ht (by decide) (by decide)]
    exact c_cl (c_some (c_some ⟨rfl, rfl⟩))
  | 10, _ => exact c_f (by decide) (c_f (by decide) (c_f (by decide) (c_f (by decide) (c_f (by decide) (c_f (by decide) (c_f (by decide) (c_f (by decide) (c_f (by decide) (c_f (by decide) (c_t rfl (c_rf (sh_x0 hS) (c_some ⟨rfl, hc.2.2.1⟩))))))))))))
theorem ct_count (hS : Sh G ad) (hv : vY b Y) (hc : CA ad M Y P T tl ea) {w : Nat} (hw : w < 11) : t_X9_count G M (ad 0) (zn w) = some (M, .inl (cntV Y P tl w)) := by
  obtain ⟨f4, f5, f6, f7, f8⟩ := id hc.1.2.1
  have ht : ∀ {w : Nat}, 4 ≤ w → w ≤ 9 → m_X8_total G M (ad 21) (zn w) = some (M, zn (aTot Y w)) := fun h1 h2 => c_total (sh_Y21 hS) hv hc.1 h1 h2
  refine cl_eq ?_
  unfold t_X9_count
  refine c_f (zn_nn (by omega)) (c_t (by rw [show (11 : Int32) = zn 11 from rfl, zn_lt (by omega) (by omega)]; exact hw) ?_)
  match w, hw with
  | 0, _ => exact c_t rfl (c_rf (sh_x2 hS) (c_some ⟨rfl, congrArg Sum.inl f5⟩))
  | 1, _ => exact c_f (by decide) (c_t rfl (c_rf (sh_x1 hS) (c_some ⟨rfl, congrArg Sum.inl hc.2.1.1.1⟩)))
  | 2, _ => exact c_f (by decide) (c_f (by decide) (c_t rfl (c_rf (sh_x2 hS) (c_some ⟨rfl, congrArg Sum.inl f4⟩))))
  | 3, _ => exact c_f (by decide) (c_f (by decide) (c_f (by decide) (c_t rfl (c_rf (sh_x1 hS) (c_some ⟨rfl, congrArg Sum.inl hc.2.1.1.2.1⟩)))))
  | 4, _ =>
    refine c_f (by decide) (c_f (by decide) (c_f (by decide) (c_f (by decide) (c_t rfl (c_rf (sh_x2 hS) ?_)))))
    rw [ht (by decide) (by decide)]
    exact c_cl (c_some (c_some ⟨rfl, rfl⟩))
  | 5, _ =>
    refine c_f (by decide) (c_f (by decide) (c_f (by decide) (c_f (by decide) (c_f (by decide) (c_t rfl (c_rf (sh_x2 hS) ?_))))))
    rw [ht (by decide) (by decide)]
    exact c_cl (c_some (c_some ⟨rfl, rfl⟩))
  | 6, _ =>
    refine c_f (by decide) (c_f (by decide) (c_f (by decide) (c_f (by decide) (c_f (by decide) (c_f (by decide) (c_t rfl (c_rf (sh_x2 hS) ?_)))))))
    rw [ht (by decide) (by decide)]
    exact c_cl (c_some (c_some ⟨rfl, rfl⟩))
  | 7, _ =>
    refine c_f (by decide) (c_f (by decide) (c_f (by decide) (c_f (by decide) (c_f (by decide) (c_f (by decide) (c_f (by decide) (c_t rfl (c_rf (sh_x2 hS) ?_))))))))
    rw [ht (by decide) (by decide)]
    exact c_cl (c_some (c_some ⟨rfl, rfl⟩))
  | 8, _ =>
    refine c_f (by decide) (c_f (by decide) (c_f (by decide) (c_f (by decide) (c_f (by decide) (c_f (by decide) (c_f (by decide) (c_f (by decide) (c_t rfl (c_rf (sh_x2 hS) ?_)))))))))
    rw [ht (by decide) (by decide)]
    exact c_cl (c_some (c_some ⟨rfl, rfl⟩))
  | 9, _ =>
    refine c_f (by decide) (c_f (by decide) (c_f (by decide) (c_f (by decide) (c_f (by decide) (c_f (by decide) (c_f (by decide) (c_f (by decide) (c_f (by decide) (c_t rfl (c_rf (sh_x2 hS) ?_))))))))))
    rw [ht (by decide) (by decide)]
    exact c_cl (c_some (c_some ⟨rfl, rfl⟩))
  | 10, _ => exact c_f (by decide) (c_f (by decide) (c_f (by decide) (c_f (by decide) (c_f (by decide) (c_f (by decide) (c_f (by decide) (c_f (by decide) (c_f (by decide) (c_f (by decide) (c_t rfl (c_rf (sh_x0 hS) (c_some ⟨rfl, congrArg Sum.inl hc.2.2.1⟩))))))))))))
/-- the reference's row of four numbers is new each time -/
theorem n_counted (hS : Sh G ad) (hU : Us G ad) (hv : vY b Y) (hm : MA ad M Y P T tl ea) {w : Nat} (hw : w < 11) {pst : gS → mS → Int32 → Prop} (H : ∀ G' M', Sh G' ad → Us G' ad → (∀ k, usd k → mI M' (ad k) = mI M (ad k)) → (∀ k, usd k → mJ M' (ad k) = mJ M (ad k)) → pst G' M' (cntV Y P tl w)) : n_X12_counted G M (ad 70) (zn w) pst := by
  unfold n_X12_counted
  rw [m_isIn]
  refine c_some ⟨fun q => ?_, fun q => ?_⟩
  · have hw2 : w < 4 ∨ w = 10 := by
      by_cases h1 : zn w < 4
      · rw [show (4 : Int32) = zn 4 from rfl, zn_lt (by omega) (by omega)] at h1
        exact Or.inl h1
      · by_cases h2 : (9 : Int32) < zn w
        · rw [show (9 : Int32) = zn 9 from rfl, zn_lt (by omega) (by omega)] at h2
          exact Or.inr (by omega)
        · rw [if_neg (fun h => h.elim h1 h2)] at q
          exact absurd q (by decide)
    intro r hr
    obtain ⟨hS2, hU2⟩ := Sh_nw (ci := 12) (N := 4) hS hU hr
    have hne : ∀ k, usd k → ad k ≠ r := fun k hk => Us_ne hU hr hk
    have gn : gN (gNw G r 12 4) r = 4 := nwn
    have v0 : mI (wZ M r) (ad 80) 0 = zn (yd_t Y) := by rw [mI_wZ, if_neg (hne 80 (by decide))]; exact hm.1.2.1.1
    have v1 : mI (wZ M r) (ad 110) 0 = zn (pg_r P) := by rw [mI_wZ, if_neg (hne 110 (by decide))]; exact hm.2.1.1.1
    have v2 : mI (wZ M r) (ad 110) 3 = zn (yd_n Y) := by rw [mI_wZ, if_neg (hne 110 (by decide))]; exact hm.2.1.1.2.1
    have v3 : mI (wZ M r) (ad 110) 11 = zn (pg_o P) := by rw [mI_wZ, if_neg (hne 110 (by decide))]; exact hm.2.1.1.2.2
    have kp : ∀ (M1 : mS) (j : Nat) (v : Int32) (k : Nat), usd k → mI (wI M1 r j v) (ad k) = mI M1 (ad k) := fun M1 j v k hk => by rw [mI_wI, if_neg (hne k hk)]
    have fin : ∀ M17, M17 = wI (wI (wI (wI (wZ M r) r 0 (zn (yd_t Y))) r 1 (zn (pg_r P))) r 2 (zn (yd_n Y))) r 3 (zn (pg_o P)) → p_if ((4 : Int32) ≤ zn w) (pst (gNw G r 12 4) M17 (mI M17 (ad 70) 2)) (p_ix (zn w) (gN (gNw G r 12 4) r) (pst (gNw G r 12 4) M17 (mI M17 r (Int32.toNatClampNeg (zn w))))) := by
      rintro M17 rfl
      have hI : ∀ k, usd k → mI (wI (wI (wI (wI (wZ M r) r 0 (zn (yd_t Y))) r 1 (zn (pg_r P))) r 2 (zn (yd_n Y))) r 3 (zn (pg_o P))) (ad k) = mI M (ad k) := fun k hk => by
        rw [kp _ _ _ k hk, kp _ _ _ k hk, kp _ _ _ k hk, kp _ _ _ k hk, mI_wZ, if_neg (hne k hk)]
      have hJ : ∀ k, usd k → mJ (wI (wI (wI (wI (wZ M r) r 0 (zn (yd_t Y))) r 1 (zn (pg_r P))) r 2 (zn (yd_n Y))) r 3 (zn (pg_o P))) (ad k) = mJ M (ad k) := fun k hk => by
        show mJ (wZ M r) (ad k) = mJ M (ad k)
        rw [mJ_wZ, if_neg (hne k hk)]
      have hp := H (gNw G r 12 4) _ hS2 hU2 hI hJ
      rw [show (4 : Int32) = zn 4 from rfl, gn]
      refine ⟨fun q2 => ?_, fun q2 => ⟨?_, ?_⟩⟩
      · rw [zn_le (by omega) (by omega)] at q2
        rw [hI 70 (by decide), hm.2.2.1]
        rw [show w = 10 by omega] at hp
        exact hp
      · rw [zn_le (by omega) (by omega)] at q2
        exact zn_in (by omega) (by decide)
      · rw [zn_le (by omega) (by omega)] at q2
        rw [zn_nat (by omega)]
        have e : mI (wI (wI (wI (wI (wZ M r) r 0 (zn (yd_t Y))) r 1 (zn (pg_r P))) r 2 (zn (yd_n Y))) r 3 (zn (pg_o P))) r w = cntV Y P tl w := by
          simp only [mI_wI, upd_at, reduceIte]
          rcases (show w = 0 ∨ w = 1 ∨ w = 2 ∨ w = 3 by omega) with rfl | rfl | rfl | rfl <;> rfl
        rw [e]
        exact hp
    refine ⟨ad 80, sh_m13 hS2, ?_⟩
    dsimp only
    rw [gn, v0]
    refine ⟨by unfold vp_in; decide, ad 110, sh_K hS2, ?_⟩
    dsimp only
    rw [kp _ _ _ 110 (by decide), v1]
    refine ⟨by unfold vp_in; decide, ad 110, sh_K hS2, ?_⟩
    dsimp only
    rw [kp _ _ _ 110 (by decide), kp _ _ _ 110 (by decide), v2]
    refine ⟨by unfold vp_in; decide, ad 110, sh_K hS2, ?_⟩
    dsimp only
    rw [kp _ _ _ 110 (by decide), kp _ _ _ 110 (by decide), kp _ _ _ 110 (by decide), v3]
    refine ⟨by unfold vp_in; decide, ?_⟩
    have := fin _ rfl
    rw [gn] at this
    exact this
  · have hw2 : 4 ≤ w ∧ w ≤ 9 := by
      by_cases h1 : zn w < 4 ∨ (9 : Int32) < zn w
      · rw [if_pos h1] at q
        exact absurd rfl q
      · rw [show (4 : Int32) = zn 4 from rfl, show (9 : Int32) = zn 9 from rfl, zn_lt (by omega) (by omega), zn_lt (by omega) (by omega)] at h1
        omega
    refine ⟨ad 80, sh_m13 hS, ?_⟩
    dsimp only
    rw [m_counted (sh_S80 hS) (sh_K hS) hv hm.2.1.1.2.1 hm.1 hw2.1 hw2.2]
    refine c_some ?_
    have e : cntV Y P tl w = zn (aTot Y w) := by
      unfold cntV
      rw [if_neg (by omega), if_neg (by omega), if_neg (by omega), if_neg (by omega), if_neg (by omega)]
    have := H G M hS hU (fun _ _ => rfl) (fun _ _ => rfl)
    rw [e] at this
    exact this
theorem tr_val (hA : Inj ad) (hS : Sh G ad) (hn : yd_n Y ≤ 6) {x : Option (mS × (Int32 ⊕ String))} {kx : mS → String → Option (mS × Int32)} {v : Int32} {T' : Nat → Nat} {tl' : Nat} (hm : MA ad M Y P T tl ea) (hx : p_cl x (fun M1 r => r = .inl v ∧ CA ad M1 Y P T' tl' ea ∧ Fr (Bk ad 0 70) M M1)) : p_cl (o_tr x (fun M1 r2 => o_ix (0 : Int32) (gN G (ad 105)) (o_wJ M1 (ad 105) (Int32.toNatClampNeg (0 : Int32)) (Int32.toInt64 r2) (fun M6 => some (M6, (0 : Int32))))) kx) (fun M1 r2 => r2 = 0 ∧ mJ M1 (ad 105) (Int32.toNatClampNeg (0 : Int32)) = Int32.toInt64 v ∧ CA ad M1 Y P T' tl' ea ∧ MA ad M1 Y P T tl ea) := by
  obtain ⟨M1, r, rfl, rfl, hc, hF⟩ := hx
  show p_cl (o_ix (0 : Int32) (gN G (ad 105)) (o_wJ M1 (ad 105) (Int32.toNatClampNeg (0 : Int32)) (Int32.toInt64 v) (fun M6 => some (M6, (0 : Int32))))) _
  rw [sh_o hS]
  have hF2 : Fr (Bk ad 105 106) M1 (wJ M1 (ad 105) (Int32.toNatClampNeg (0 : Int32)) (Int32.toInt64 v)) := Fr_wJ Fr_rf (Bk_in (by omega) (by omega))
  exact c_ix (by unfold vp_in; decide) (c_wJ (c_some ⟨rfl, by rw [mJ_wJ, if_pos rfl, updL_at, if_pos rfl], CA_Fr hA hn hc hF2 (by omega), MA_Fr hA (MA_Fr hA hm hF (by omega)) hF2 (by omega)⟩))
theorem end_val {M5 : mS} {v : Int32} (hS : Sh G ad) (hJ : mJ M5 (ad 105) (Int32.toNatClampNeg (0 : Int32)) = Int32.toInt64 v) (ht : mI M5 (ad 70) 0 = 0) (hp : post G M5) : p_cl (m_X12_thrown G M5 (ad 70)) (fun M5 r6 => (p_if (r6 = 0) ((p_if ((0 : Int32) = 0) (p_ix (0 : Int32) (gN G (ad 105)) ((p_if ((lg_cmp (mJ M5 (ad 105) (Int32.toNatClampNeg (0 : Int32))) (Int32.toInt64 v)) = 0) (post G M5) (False)))) (post G M5))) (False))) := by
  refine c_some ⟨fun _ => ⟨fun _ => ⟨by rw [sh_o hS]; unfold vp_in; decide, ⟨fun _ => hp, fun q => q (by rw [hJ]; exact lg_same)⟩⟩, fun q => absurd rfl q⟩, fun q => q ht⟩
theorem ok_4 (hA : Inj ad) (hS : Sh G ad) (hU : Us G ad) (hv : vY b Y) (hc : CA ad M Y P T tl ea) (hm : MA ad M Y P T tl ea) (H : ∀ G' M', Sh G' ad → Us G' ad → CA ad M' Y P T tl ea → MA ad M' Y P T tl ea → post G' M') {c1 : Int32} : fc_4 G M (ad 0) (ad 70) (ad 105) c1 post := by
  have hn := hv.2.1
  unfold fc_4 m_L_count
  by_cases h : vp_in c1 11
  · obtain ⟨w, k1, k2, rfl⟩ := in_ex h
    rw [ct_count hS hv hc k1]
    refine c_mono (tr_val (v := cntV Y P tl w) hA hS hn hm (c_some ⟨rfl, hc, Fr_rf⟩)) ?_
    rintro M1 r2 ⟨rfl, hJ, hc1, hm1⟩
    have e := m_tell (v := 0) hA hm1
    unfold n_X12_count
    show p_cl (m_X12_isIn G (wI M1 (ad 70) 0 0) (zn w) 0 10) _
    rw [show (10 : Int32) = zn 11 - 1 from by decide, m_isInN_t (by decide) h]
    refine c_some ⟨fun q => absurd q (by decide), fun _ => ?_⟩
    refine n_counted hS hU hv e.2.2.1 k1 (fun G' M' hS' hU' hI hJ' => ?_)
    refine end_val hS' ?_ ?_ (H G' M' hS' hU' (CA_U hn (CA_Fr hA hn hc1 e.2.2.2 (by omega)) hI hJ') (MA_U e.2.2.1 hI))
    · rw [hJ' 105 (by decide)]; exact hJ
    · rw [hI 70 (by decide)]; exact e.1
  · have hx : t_X9_count G M (ad 0) c1 = some (M, .inr "java/lang/IndexOutOfBoundsException") := by
      refine cl_eq ?_
      unfold t_X9_count t_X9_count_10
      exact c_if (fun q => c_some ⟨rfl, rfl⟩) (fun q => c_f (Int32.not_lt.mpr ((in_not (n := 11) (by decide) h).resolve_left q)) (c_some ⟨rfl, rfl⟩))
    rw [hx]
    refine c_some ?_
    unfold n_X12_count
    show p_cl (m_X12_isIn G (wI M (ad 70) 0 0) c1 0 10) _
    rw [show (10 : Int32) = zn 11 - 1 from by decide, m_isInN_f (by decide) h]
    refine c_some ⟨fun _ => c_some (c_some ?_), fun q => absurd rfl q⟩
    have hF : Fr (Bk ad 70 71) M (wI (wI M (ad 70) 0 0) (ad 70) 0 1) := Fr_wI (Fr_wI Fr_rf (Bk_in (by omega) (by omega))) (Bk_in (by omega) (by omega))
    exact ⟨fun _ => ⟨fun q => absurd q (by decide), fun _ => H G _ hS hU (CA_Fr hA hn hc hF (by omega)) (MA_th hA (MA_th hA hm))⟩, fun q => q (by rw [mI_wI, if_pos rfl, upd_at, if_pos rfl])⟩
-- the class's checksum
theorem c_dg_stones (hS : Sh G ad) (hc : cYc ad M 21 (yd_c Y)) {d0 : Int64} : ∀ (d p f : Nat), p + d = 4096 → d < f → m_X9_digest_143 G (ad 0) f M (dgS (yd_c Y) d0 p) (zn p) = some (M, dgS (yd_c Y) d0 4096) := by
  intro d
  induction d with
  | zero =>
    intro p f hp hf
    obtain ⟨f, rfl⟩ : ∃ g, f = g + 1 := ⟨f - 1, by omega⟩
    have hp : p = 4096 := by omega
    subst hp
    rw [m_X9_digest_143, if_pos (show (4096 : Int32) ≤ zn 4096 from Int32.le_refl _)]
  | succ d ih =>
    intro p f hp hf
    obtain ⟨f, rfl⟩ : ∃ g, f = g + 1 := ⟨f - 1, by omega⟩
    rw [m_X9_digest_143, if_neg (by rw [show (4096 : Int32) = zn 4096 from rfl, zn_le (by omega) (by omega)]; omega), sh_x2 hS]
    unfold o_rf o_cl o_bd
    dsimp only
    rw [c_colourAt (sh_Y21 hS) hc (show p < 4096 by omega)]
    dsimp only
    rw [zn_one]
    exact ih (p + 1) f (by omega) (by omega)
theorem c_dg_ant (hA : Inj ad) (hS : Sh G ad) (hv : vY b Y) (hb : b < 900000000) {i : Nat} (hi : i < yd_n Y) {d0 : Int64} (kb : mS → Int64 → Int32 → Option (mS × Int64)) {Q : mS → Int64 → Prop} : ∀ (d w f : Nat) (M : mS), w + d = 9 → d < f → CA ad M Y P T tl ea → (∀ M', CA ad M' Y P T tl ea → Fr (Bk ad 0 70) M M' → p_cl (kb M' (dgA2 (yd_a Y i) d0 9) (zn (i + 1))) Q) → p_cl (m_X9_digest_100 G (ad 0) kb f M (dgA2 (yd_a Y i) d0 w) (zn i) (zn w)) Q := by
  have hn := hv.2.1
  intro d
  induction d with
  | zero =>
    intro w f M hw hf hc hk
    obtain ⟨f, rfl⟩ : ∃ g, f = g + 1 := ⟨f - 1, by omega⟩
    have hw : w = 9 := by omega
    subst hw
    rw [m_X9_digest_100]
    refine c_t (Int32.le_refl _) (c_bd ?_)
    rw [zn_one]
    exact hk M hc Fr_rf
  | succ d ih =>
    intro w f M hw hf hc hk
    obtain ⟨f, rfl⟩ : ∃ g, f = g + 1 := ⟨f - 1, by omega⟩
    rw [m_X9_digest_100]
    refine c_f (by rw [show (9 : Int32) = zn 9 from rfl, zn_le (by omega) (by omega)]; omega) (c_rf (sh_x2 hS) (c_rf (sh_Y21 hS).2.2.2.1 ?_))
    rw [(sh_Y21 hS).2.2.2.2.2.2.2.2.1, zn_nat (show i < 2147483648 by omega)]
    refine c_ix (zn_in (by omega) (by decide)) (c_rf ((sh_Y21 hS).2.2.2.2.1 i (by omega)) (c_clm (cA_ans hA ((sh_Y21 hS).2.2.2.2.2.2.2.2.2 i (by omega)) (hc.1.2.2 i hi) (hv.2.2 i hi).1 (by have := (hv.2.2 i hi).2; omega) (w := w) (by omega)) ?_))
    rintro M1 r ⟨rfl, g1, g2⟩
    obtain ⟨g3, g4⟩ := CA_ant0 hA hv hc hi g1 g2
    refine c_bd (c_bd ?_)
    rw [zn_one]
    exact ih (w + 1) f M1 (by omega) (by omega) g3 (fun M' q1 q2 => hk M' q1 (Fr_tr g4 q2))
theorem c_dg_ants (hA : Inj ad) (hS : Sh G ad) (hv : vY b Y) (hb : b < 900000000) {d0 : Int64} : ∀ (d i f : Nat) (M : mS), i + d = yd_n Y → d < f → CA ad M Y P T tl ea → p_cl (m_X9_digest_86 G (ad 0) f M (dgA (yd_a Y) d0 i) (zn i)) (fun M' r => r = dgS (yd_c Y) (dgA (yd_a Y) d0 (yd_n Y)) 4096 ∧ CA ad M' Y P T tl ea ∧ Fr (Bk ad 0 70) M M') := by
  have hn := hv.2.1
  intro d
  induction d with
  | zero =>
    intro i f M hi hf hc
    obtain ⟨f, rfl⟩ : ∃ g, f = g + 1 := ⟨f - 1, by omega⟩
    have hi : i = yd_n Y := by omega
    subst hi
    rw [m_X9_digest_86]
    refine c_rf (sh_x2 hS) ?_
    rw [hc.1.2.1.1]
    refine c_t (Int32.le_refl _) ?_
    have := c_dg_stones (Y := Y) (d0 := dgA (yd_a Y) d0 (yd_n Y)) hS hc.1.1 4096 0 fu (by omega) (by unfold fu; omega)
    rw [show zn 0 = (0 : Int32) from rfl, show dgS (yd_c Y) (dgA (yd_a Y) d0 (yd_n Y)) 0 = dgA (yd_a Y) d0 (yd_n Y) from rfl] at this
    rw [this]
    exact c_some ⟨rfl, hc, Fr_rf⟩
  | succ d ih =>
    intro i f M hi hf hc
    obtain ⟨f, rfl⟩ : ∃ g, f = g + 1 := ⟨f - 1, by omega⟩
    rw [m_X9_digest_86]
    refine c_rf (sh_x2 hS) ?_
    rw [hc.1.2.1.1]
    refine c_f (by rw [zn_le (by omega) (by omega)]; omega) ?_
    refine c_dg_ant (d0 := dgA (yd_a Y) d0 i) hA hS hv hb (i := i) (by omega) _ 9 0 fu M (by omega) (by unfold fu; omega) hc ?_
    intro M1 g1 g2
    refine c_mono (ih (i + 1) f M1 (by omega) (by omega) g1) ?_
    rintro M2 r ⟨q1, q2, q3⟩
    exact ⟨q1, q2, Fr_tr g2 q3⟩
theorem c_dg_rule (hS : Sh G ad) (hvP : vP (yd_n Y) P) (hc : CA ad M Y P T tl ea) {r : Nat} (hr : r < pg_r P) {d0 : Int64} (kb : mS → Int64 → Int32 → Option (mS × Int64)) {Q : mS → Int64 → Prop} (hk : p_cl (kb M (dgR2 P r d0 6) (zn (r + 1))) Q) : ∀ (d c f : Nat), c + d = 6 → d < f → p_cl (m_X9_digest_47 G (ad 0) kb f M (dgR2 P r d0 c) (zn r) (zn c)) Q := by
  have h5 := hvP.1
  intro d
  induction d with
  | zero =>
    intro c f hcc hf
    obtain ⟨f, rfl⟩ : ∃ g, f = g + 1 := ⟨f - 1, by omega⟩
    have hcc : c = 6 := by omega
    subst hcc
    rw [m_X9_digest_47]
    refine c_t (Int32.le_refl _) (c_bd ?_)
    rw [zn_one]
    exact hk
  | succ d ih =>
    intro c f hcc hf
    obtain ⟨f, rfl⟩ : ∃ g, f = g + 1 := ⟨f - 1, by omega⟩
    rw [m_X9_digest_47]
    refine c_f (by rw [show (6 : Int32) = zn 6 from rfl, zn_le (by omega) (by omega)]; omega) (c_rf (sh_x1 hS) ?_)
    rw [c_turn (sh_P3 hS) hvP hc.2.1 hr (show c < 1000 by omega)]
    refine c_cl (c_some (c_bd (c_bd ?_)))
    rw [zn_one]
    exact ih (c + 1) f (by omega) (by omega)
theorem c_dg_rules (hA : Inj ad) (hS : Sh G ad) (hv : vY b Y) (hb : b < 900000000) (hvP : vP (yd_n Y) P) (hc : CA ad M Y P T tl ea) {d0 : Int64} : ∀ (d r f : Nat), r + d = pg_r P → d < f → p_cl (m_X9_digest_33 G (ad 0) f M (dgR P d0 r) (zn r)) (fun M' x => x = dgS (yd_c Y) (dgA (yd_a Y) (dgR P d0 (pg_r P)) (yd_n Y)) 4096 ∧ CA ad M' Y P T tl ea ∧ Fr (Bk ad 0 70) M M') := by
  have h5 := hvP.1
  intro d
  induction d with
  | zero =>
    intro r f hr hf
    obtain ⟨f, rfl⟩ : ∃ g, f = g + 1 := ⟨f - 1, by omega⟩
    have hr : r = pg_r P := by omega
    subst hr
    rw [m_X9_digest_33]
    refine c_rf (sh_x1 hS) ?_
    rw [hc.2.1.1.1]
    refine c_t (Int32.le_refl _) ?_
    exact c_dg_ants (d0 := dgR P d0 (pg_r P)) hA hS hv hb (yd_n Y) 0 fu M (by omega) (by have := hv.2.1; unfold fu; omega) hc
  | succ d ih =>
    intro r f hr hf
    obtain ⟨f, rfl⟩ : ∃ g, f = g + 1 := ⟨f - 1, by omega⟩
    rw [m_X9_digest_33]
    refine c_rf (sh_x1 hS) ?_
    rw [hc.2.1.1.1]
    refine c_f (by rw [zn_le (by omega) (by omega)]; omega) ?_
    exact c_dg_rule (d0 := dgR P d0 r) hS hvP hc (r := r) (by omega) _ (ih (r + 1) f (by omega) (by omega)) 6 0 fu (by omega) (by unfold fu; omega)
theorem c_dg (hA : Inj ad) (hS : Sh G ad) (hv : vY b Y) (hb : b < 900000000) (hvP : vP (yd_n Y) P) (hc : CA ad M Y P T tl ea) : ∀ (d w f : Nat), w + d = 11 → d < f → p_cl (m_X9_digest_6 G (ad 0) f M (dgC Y P tl w) (zn w)) (fun M' x => x = dgAll Y P tl ∧ CA ad M' Y P T tl ea ∧ Fr (Bk ad 0 70) M M') := by
  intro d
  induction d with
  | zero =>
    intro w f hw hf
    obtain ⟨f, rfl⟩ : ∃ g, f = g + 1 := ⟨f - 1, by omega⟩
    have hw : w = 11 := by omega
    subst hw
    rw [m_X9_digest_6]
    refine c_t (Int32.le_refl _) ?_
    exact c_dg_rules (d0 := dgC Y P tl 11) hA hS hv hb hvP hc (pg_r P) 0 fu (by omega) (by have := hvP.1; unfold fu; omega)
  | succ d ih =>
    intro w f hw hf
    obtain ⟨f, rfl⟩ : ∃ g, f = g + 1 := ⟨f - 1, by omega⟩
    rw [m_X9_digest_6, c_count hS hv hc (show w < 11 by omega)]
    refine c_f (by rw [show (11 : Int32) = zn 11 from rfl, zn_le (by omega) (by omega)]; omega) (c_cl (c_some (c_bd (c_bd ?_))))
    rw [zn_one]
    exact ih (w + 1) f (by omega) (by omega)
-- the reference's checksum
theorem m_dg_stones (hS : Sh G ad) (hc : mYc ad M 80 (yd_c Y)) {d0 : Int64} : ∀ (d p f : Nat), p + d = 4096 → d < f → m_X12_digest_168 G (ad 70) f M (dgS (yd_c Y) d0 p) (ad (80 + 1)) (zn 4096) (zn p) = some (M, dgS (yd_c Y) d0 4096) := by
  have s80 := sh_S80 hS
  intro d
  induction d with
  | zero =>
    intro p f hp hf
    obtain ⟨f, rfl⟩ : ∃ g, f = g + 1 := ⟨f - 1, by omega⟩
    have hp : p = 4096 := by omega
    subst hp
    rw [m_X12_digest_168, if_pos (Int32.le_refl _)]
  | succ d ih =>
    intro p f hp hf
    obtain ⟨f, rfl⟩ : ∃ g, f = g + 1 := ⟨f - 1, by omega⟩
    rw [m_X12_digest_168, if_neg (by rw [zn_le (by omega) (by omega)]; omega)]
    unfold o_ix o_bd
    rw [sn1 s80, if_neg (show ¬ (zn p < 0 ∨ 4096 ≤ (zn p).toNatClampNeg) from zn_in (by omega) (by decide)), zn_nat (by omega), hc.1 p (by omega)]
    dsimp only
    rw [zn_one]
    exact ih (p + 1) f (by omega) (by omega)
theorem m_dg_ant (hS : Sh G ad) (hv : vY b Y) (hb : b < 900000000) (hm : MA ad M Y P T tl ea) {i : Nat} (hi : i < yd_n Y) {d0 v : Int64} (kb : mS → Int64 → Int32 → Option (mS × Int64)) (hk : kb M (dgA2 (yd_a Y i) d0 9) (zn (i + 1)) = some (M, v)) : ∀ (d w f : Nat), w + d = 9 → d < f → m_X12_digest_119 G (ad 70) kb f M (dgA2 (yd_a Y i) d0 w) (zn i) (zn w) = some (M, v) := by
  intro d
  induction d with
  | zero =>
    intro w f hw hf
    obtain ⟨f, rfl⟩ : ∃ g, f = g + 1 := ⟨f - 1, by omega⟩
    have hw : w = 9 := by omega
    subst hw
    rw [m_X12_digest_119, if_pos (by decide)]
    unfold o_bd
    rw [zn_one]
    exact hk
  | succ d ih =>
    intro w f hw hf
    obtain ⟨f, rfl⟩ : ∃ g, f = g + 1 := ⟨f - 1, by omega⟩
    rw [m_X12_digest_119, if_neg (by rw [show (8 : Int32) = zn 8 from rfl, zn_lt (by omega) (by omega)]; omega), m_antTold hS hv hb hm hi (show w < 9 by omega)]
    unfold o_cl o_bd
    dsimp only
    rw [zn_one]
    exact ih (w + 1) f (by omega) (by omega)
theorem m_dg_ants (hS : Sh G ad) (hv : vY b Y) (hb : b < 900000000) (hm : MA ad M Y P T tl ea) {d0 : Int64} : ∀ (d i f : Nat), i + d = yd_n Y → d < f → m_X12_digest_105 G (ad 70) f M (dgA (yd_a Y) d0 i) (zn i) = some (M, dgS (yd_c Y) (dgA (yd_a Y) d0 (yd_n Y)) 4096) := by
  have hn := hv.2.1
  have s80 := sh_S80 hS
  intro d
  induction d with
  | zero =>
    intro i f hi hf
    obtain ⟨f, rfl⟩ : ∃ g, f = g + 1 := ⟨f - 1, by omega⟩
    have hi : i = yd_n Y := by omega
    subst hi
    rw [m_X12_digest_105, show gP G (ad 70) 11 = some (ad 110) from sh_K hS]
    unfold o_rf
    dsimp only
    rw [hm.2.1.1.2.1, if_pos (Int32.le_refl _), sh_m13 hS]
    dsimp only
    rw [s4 s80]
    unfold o_bd
    dsimp only
    rw [sn1 s80]
    exact m_dg_stones (d0 := dgA (yd_a Y) d0 (yd_n Y)) hS hm.1.1 4096 0 fu (by omega) (by unfold fu; omega)
  | succ d ih =>
    intro i f hi hf
    obtain ⟨f, rfl⟩ : ∃ g, f = g + 1 := ⟨f - 1, by omega⟩
    rw [m_X12_digest_105, show gP G (ad 70) 11 = some (ad 110) from sh_K hS]
    unfold o_rf
    dsimp only
    rw [hm.2.1.1.2.1, if_neg (by rw [zn_le (by omega) (by omega)]; omega)]
    exact m_dg_ant (d0 := dgA (yd_a Y) d0 i) hS hv hb hm (i := i) (by omega) _ (ih (i + 1) f (by omega) (by omega)) 9 0 fu (by omega) (by unfold fu; omega)
theorem m_dg_rule (hS : Sh G ad) (hvP : vP (yd_n Y) P) (hm : MA ad M Y P T tl ea) {r : Nat} (hr : r < pg_r P) {d0 v : Int64} (kb : mS → Int64 → Int32 → Option (mS × Int64)) (hk : kb M (dgR2 P r d0 6) (zn (r + 1)) = some (M, v)) : ∀ (d c f : Nat), c + d = 6 → d < f → m_X12_digest_52 G (ad 70) kb f M (dgR2 P r d0 c) (zn r) (zn c) = some (M, v) := by
  have h5 := hvP.1
  have sK : gP G (ad 70) 11 = some (ad 110) := sh_K hS
  intro d
  induction d with
  | zero =>
    intro c f hcc hf
    obtain ⟨f, rfl⟩ : ∃ g, f = g + 1 := ⟨f - 1, by omega⟩
    have hcc : c = 6 := by omega
    subst hcc
    rw [m_X12_digest_52, if_pos (by decide)]
    unfold o_bd
    rw [zn_one]
    exact hk
  | succ d ih =>
    intro c f hcc hf
    obtain ⟨f, rfl⟩ : ∃ g, f = g + 1 := ⟨f - 1, by omega⟩
    obtain ⟨q1, q2, q3, q4⟩ := m_turnOf hS hvP hm.2.1 (c := c) hr
    have hz := hvP.2.1 r hr
    refine cl_eq ?_
    rw [m_X12_digest_52]
    refine c_f (by rw [show (5 : Int32) = zn 5 from rfl, zn_lt (by omega) (by omega)]; omega) (c_rf sK (c_rf (l2 (sh_L hS)) (c_rf sK (c_rf (l1 (sh_L hS)) ?_))))
    rw [ln1 (sh_L hS), ln2 (sh_L hS), zn_nat (show r < 2147483648 by omega), q2]
    refine c_ix (zn_in (by omega) (by decide)) (c_ck q3 ?_)
    rw [zn_mod (by omega) (by omega), show (6 : Int32) * zn r = zn (6 * r) from zn_mul 6 r, zn_add]
    refine c_ix (zn_in q1 (by decide)) (c_bd (c_bd ?_))
    rw [zn_nat (show 6 * r + c % pg_z P r < 2147483648 by omega), q4, zn_one]
    have := ih (c + 1) f (by omega) (by omega)
    rw [show dgR2 P r d0 (c + 1) = dgR2 P r d0 c * 31 + Int32.toInt64 (zn (pg_t P r (c % pg_z P r))) from rfl] at this
    rw [this]
    exact c_some ⟨rfl, rfl⟩
theorem m_dg_rules (hS : Sh G ad) (hv : vY b Y) (hb : b < 900000000) (hvP : vP (yd_n Y) P) (hm : MA ad M Y P T tl ea) {d0 : Int64} : ∀ (d r f : Nat), r + d = pg_r P → d < f → m_X12_digest_38 G (ad 70) f M (dgR P d0 r) (zn r) = some (M, dgS (yd_c Y) (dgA (yd_a Y) (dgR P d0 (pg_r P)) (yd_n Y)) 4096) := by
  have h5 := hvP.1
  intro d
  induction d with
  | zero =>
    intro r f hr hf
    obtain ⟨f, rfl⟩ : ∃ g, f = g + 1 := ⟨f - 1, by omega⟩
    have hr : r = pg_r P := by omega
    subst hr
    rw [m_X12_digest_38, show gP G (ad 70) 11 = some (ad 110) from sh_K hS]
    unfold o_rf
    dsimp only
    rw [hm.2.1.1.1, if_pos (Int32.le_refl _)]
    exact m_dg_ants (d0 := dgR P d0 (pg_r P)) hS hv hb hm (yd_n Y) 0 fu (by omega) (by have := hv.2.1; unfold fu; omega)
  | succ d ih =>
    intro r f hr hf
    obtain ⟨f, rfl⟩ : ∃ g, f = g + 1 := ⟨f - 1, by omega⟩
    rw [m_X12_digest_38, show gP G (ad 70) 11 = some (ad 110) from sh_K hS]
    unfold o_rf
    dsimp only
    rw [hm.2.1.1.1, if_neg (by rw [zn_le (by omega) (by omega)]; omega)]
    exact m_dg_rule (d0 := dgR P d0 r) hS hvP hm (r := r) (by omega) _ (ih (r + 1) f (by omega) (by omega)) 6 0 fu (by omega) (by unfold fu; omega)
theorem ok_21 (hA : Inj ad) (hS : Sh G ad) (hU : Us G ad) (hv : vY b Y) (hb : b < 800000000) (hvP : vP (yd_n Y) P) (hc : CA ad M Y P T tl ea) (hm : MA ad M Y P T tl ea) (H : ∀ G' M', Sh G' ad → Us G' ad → CA ad M' Y P T tl ea → MA ad M' Y P T tl ea → post G' M') : fc_21 G M (ad 0) (ad 70) (ad 105) post := by
  have hn := hv.2.1
  unfold fc_21 m_X9_digest
  refine c_mono (c_dg hA hS hv (by omega) hvP hc 11 0 fu (by omega) (by unfold fu; omega)) ?_
  rintro M1 x ⟨rfl, hc1, hF⟩
  have e := m_tell (v := 0) hA (MA_Fr hA hm hF (by omega))
  have hc2 := CA_Fr hA hn hc1 e.2.2.2 (by omega)
  have hm2 := e.2.2.1
  unfold n_X12_digest p_wI
  dsimp only [p_bd]
  show n_X12_counted G (wI M1 (ad 70) 0 0) (ad 70) (zn 0) _
  generalize wI M1 (ad 70) 0 0 = M2 at hc2 hm2
  refine n_counted hS hU hv hm2 (by decide) (fun G0 M0 hS0 hU0 hI0 hJ0 => ?_)
  have hc3 := CA_U hn hc2 hI0 hJ0
  have hm3 := MA_U hm2 hI0
  show n_X12_counted G0 M0 (ad 70) (zn 1) _
  refine n_counted hS0 hU0 hv hm3 (by decide) (fun G1 M1 hS1 hU1 hI1 hJ1 => ?_)
  have hc4 := CA_U hn hc3 hI1 hJ1
  have hm4 := MA_U hm3 hI1
  show n_X12_counted G1 M1 (ad 70) (zn 2) _
  refine n_counted hS1 hU1 hv hm4 (by decide) (fun G2 M2 hS2 hU2 hI2 hJ2 => ?_)
  have hc5 := CA_U hn hc4 hI2 hJ2
  have hm5 := MA_U hm4 hI2
  show n_X12_counted G2 M2 (ad 70) (zn 3) _
  refine n_counted hS2 hU2 hv hm5 (by decide) (fun G3 M3 hS3 hU3 hI3 hJ3 => ?_)
  have hc6 := CA_U hn hc5 hI3 hJ3
  have hm6 := MA_U hm5 hI3
  show n_X12_counted G3 M3 (ad 70) (zn 4) _
  refine n_counted hS3 hU3 hv hm6 (by decide) (fun G4 M4 hS4 hU4 hI4 hJ4 => ?_)
  have hc7 := CA_U hn hc6 hI4 hJ4
  have hm7 := MA_U hm6 hI4
  show n_X12_counted G4 M4 (ad 70) (zn 5) _
  refine n_counted hS4 hU4 hv hm7 (by decide) (fun G5 M5 hS5 hU5 hI5 hJ5 => ?_)
  have hc8 := CA_U hn hc7 hI5 hJ5
  have hm8 := MA_U hm7 hI5
  show n_X12_counted G5 M5 (ad 70) (zn 6) _
  refine n_counted hS5 hU5 hv hm8 (by decide) (fun G6 M6 hS6 hU6 hI6 hJ6 => ?_)
  have hc9 := CA_U hn hc8 hI6 hJ6
  have hm9 := MA_U hm8 hI6
  show n_X12_counted G6 M6 (ad 70) (zn 7) _
  refine n_counted hS6 hU6 hv hm9 (by decide) (fun G7 M7 hS7 hU7 hI7 hJ7 => ?_)
  have hc10 := CA_U hn hc9 hI7 hJ7
  have hm10 := MA_U hm9 hI7
  show n_X12_counted G7 M7 (ad 70) (zn 8) _
  refine n_counted hS7 hU7 hv hm10 (by decide) (fun G8 M8 hS8 hU8 hI8 hJ8 => ?_)
  have hc11 := CA_U hn hc10 hI8 hJ8
  have hm11 := MA_U hm10 hI8
  show n_X12_counted G8 M8 (ad 70) (zn 9) _
  refine n_counted hS8 hU8 hv hm11 (by decide) (fun G9 M9 hS9 hU9 hI9 hJ9 => ?_)
  have hc12 := CA_U hn hc11 hI9 hJ9
  have hm12 := MA_U hm11 hI9
  show n_X12_counted G9 M9 (ad 70) (zn 10) _
  refine n_counted hS9 hU9 hv hm12 (by decide) (fun G10 M10 hS10 hU10 hI10 hJ10 => ?_)
  have hc13 := CA_U hn hc12 hI10 hJ10
  have hm13 := MA_U hm12 hI10
  show p_cl (m_X12_digest_38 G10 (ad 70) fu M10 (dgR P (dgC Y P tl 11) 0) (zn 0)) _
  rw [m_dg_rules (d0 := dgC Y P tl 11) hS10 hv (by omega) hvP hm13 (pg_r P) 0 fu (by omega) (by have := hvP.1; unfold fu; omega)]
  exact c_some ⟨fun _ => H G10 M10 hS10 hU10 hc13 hm13, fun q => q lg_same⟩
end Count
