/-! the reference's state -/
def mYc (ad : Nat → Nat) (M : mS) (s : Nat) (c : Nat → Nat) : Prop := (∀ p, p < 4096 → mI M (ad (s + 1)) p = zn (c p)) ∧ ∀ r, r < 64 → mI M (ad (s + 2)) r = zn (nz c (64 * r) 64)
def mYf (ad : Nat → Nat) (M : mS) (s : Nat) (Y : aY) : Prop := mI M (ad s) 0 = zn (yd_t Y) ∧ mI M (ad s) 1 = zn (yd_m Y) ∧ mI M (ad s) 2 = zn (yd_w Y) ∧ mI M (ad s) 3 = zn (yd_k Y)
def mYa (ad : Nat → Nat) (M : mS) (s n : Nat) (a : Nat → aA) : Prop := ∀ i, i < n → mA ad M s i (a i)
def mY (ad : Nat → Nat) (M : mS) (s : Nat) (Y : aY) : Prop := mYc ad M s (yd_c Y) ∧ mYf ad M s Y ∧ mYa ad M s (yd_n Y) (yd_a Y)
/-- the plan that stands: how many ants, their rules -/
def mN (ad : Nat → Nat) (M : mS) (n : Nat) : Prop := mI M (ad 110) 3 = zn n
def KSh (G : gS) (ad : Nat → Nat) : Prop := gP G (ad 70) 11 = some (ad 110)
section YardM
variable {G : gS} {ad : Nat → Nat} {M : mS} {s : Nat} {Y : aY} {c : Nat → Nat}
theorem mYc_Fr (hA : Inj ad) {lo hi : Nat} {M' : mS} (h : mYc ad M s c) (hF : Fr (Bk ad lo hi) M M') (hd : s + 2 < lo ∨ hi ≤ s + 1) : mYc ad M' s c := by
  unfold mYc
  rw [Fr_I hA hF (k := s + 1) (by omega), Fr_I hA hF (k := s + 2) (by omega)]
  exact h
theorem mYf_Fr (hA : Inj ad) {lo hi : Nat} {M' : mS} (h : mYf ad M s Y) (hF : Fr (Bk ad lo hi) M M') (hd : s < lo ∨ hi ≤ s) : mYf ad M' s Y := by
  unfold mYf
  rw [Fr_I hA hF (k := s) (by omega)]
  exact h
theorem mYa_Fr (hA : Inj ad) {lo hi n : Nat} {a : Nat → aA} {M' : mS} (h : mYa ad M s n a) (hF : Fr (Bk ad lo hi) M M') (hd : s + 10 < lo ∨ hi ≤ s + 3) : mYa ad M' s n a := fun i hi => mA_Fr hA (h i hi) hF hd
theorem mY_Fr (hA : Inj ad) {lo hi : Nat} {M' : mS} (h : mY ad M s Y) (hF : Fr (Bk ad lo hi) M M') (hd : s + 11 ≤ lo ∨ hi ≤ s) : mY ad M' s Y := ⟨mYc_Fr hA h.1 hF (by omega), mYf_Fr hA h.2.1 hF (by omega), mYa_Fr hA h.2.2 hF (by omega)⟩
theorem m_dark_loop (hS : SSh G ad s) (hc : mYc ad M s c) : ∀ (d r f : Nat), r + d = 64 → d < f → m_X11_dark_13 G (ad s) f M (zn (nz c 0 (64 * r))) (ad (s + 2)) (zn 64) (zn r) = some (M, zn (dk c)) := by
  intro d
  induction d with
  | zero =>
    intro r f hr hf
    obtain ⟨f, rfl⟩ : ∃ g, f = g + 1 := ⟨f - 1, by omega⟩
    have hr : r = 64 := by omega
    subst hr
    rw [m_X11_dark_13, if_pos (Int32.le_refl _)]
  | succ d ih =>
    intro r f hr hf
    obtain ⟨f, rfl⟩ : ∃ g, f = g + 1 := ⟨f - 1, by omega⟩
    rw [m_X11_dark_13, if_neg (by rw [zn_le (by omega) (by omega)]; omega)]
    unfold o_ix o_bd
    rw [sn2 hS, if_neg (show ¬ (zn r < 0 ∨ 64 ≤ (zn r).toNatClampNeg) from zn_in (by omega) (by decide)), zn_nat (by omega), hc.2 r (by omega)]
    dsimp only
    rw [zn_add, zn_one]
    have := ih (r + 1) f (by omega) (by omega)
    rw [show 64 * (r + 1) = 64 * r + 64 by omega, nz_app, Nat.zero_add] at this
    exact this
theorem m_dark (hS : SSh G ad s) (hc : mYc ad M s c) : m_X11_dark G M (ad s) = some (M, zn (dk c)) := by
  unfold m_X11_dark
  rw [s5 hS]
  unfold o_rf o_bd
  dsimp only
  rw [sn2 hS]
  exact m_dark_loop hS hc 64 0 fu (by omega) (by unfold fu; omega)
def totC (c : Nat → Nat) : Nat → Nat
  | 0 => 0
  | k + 1 => totC c k + c k
theorem tot_cn (hv : ∀ p, c p < 6) : ∀ k : Nat, totC c k = 1 * cn c 1 k + 2 * cn c 2 k + 3 * cn c 3 k + 4 * cn c 4 k + 5 * cn c 5 k := by
  intro k
  induction k with
  | zero => rfl
  | succ k ih =>
    rw [totC, cn, cn, cn, cn, cn, ih]
    have := hv k
    rcases (show c k = 0 ∨ c k = 1 ∨ c k = 2 ∨ c k = 3 ∨ c k = 4 ∨ c k = 5 by omega) with e | e | e | e | e | e <;> simp [e] <;> omega
theorem tot_csum (hv : ∀ p, c p < 6) : totC c 4096 = csum c 6 := by
  rw [tot_cn hv]
  unfold csum csum csum csum csum csum csum
  omega
theorem m_sum_loop (hS : SSh G ad s) (hc : mYc ad M s c) : ∀ (d k f : Nat), k + d = 4096 → d < f → m_X11_sum_13 G (ad s) f M (zn (totC c k)) (ad (s + 1)) (zn 4096) (zn k) = some (M, zn (totC c 4096)) := by
  intro d
  induction d with
  | zero =>
    intro k f hk hf
    obtain ⟨f, rfl⟩ : ∃ g, f = g + 1 := ⟨f - 1, by omega⟩
    have hk : k = 4096 := by omega
    subst hk
    rw [m_X11_sum_13, if_pos (Int32.le_refl _)]
  | succ d ih =>
    intro k f hk hf
    obtain ⟨f, rfl⟩ : ∃ g, f = g + 1 := ⟨f - 1, by omega⟩
    rw [m_X11_sum_13, if_neg (by rw [zn_le (by omega) (by omega)]; omega)]
    unfold o_ix o_bd
    rw [sn1 hS, if_neg (show ¬ (zn k < 0 ∨ 4096 ≤ (zn k).toNatClampNeg) from zn_in (by omega) (by decide)), zn_nat (by omega), hc.1 k (by omega)]
    dsimp only
    rw [zn_add, zn_one]
    exact ih (k + 1) f (by omega) (by omega)
theorem m_sum (hS : SSh G ad s) (hc : mYc ad M s c) (hv : ∀ p, c p < 6) : m_X11_sum G M (ad s) = some (M, zn (csum c 6)) := by
  unfold m_X11_sum
  rw [s4 hS]
  unfold o_rf o_bd
  dsimp only
  rw [sn1 hS, ← tot_csum hv]
  exact m_sum_loop hS hc 4096 0 fu (by omega) (by unfold fu; omega)
theorem m_walk_loop (hS : SSh G ad s) (hK : KSh G ad) {n : Nat} {a : Nat → aA} (hn : n ≤ 6) (hv : ∀ i, i < n → vA (a i)) (hN : mN ad M n) (ha : mYa ad M s n a) : ∀ (d i f : Nat), i + d = n → d < f → m_X11_walkers_4 G (ad s) f M (zn (wkA a i)) (zn i) = some (M, zn (wkA a n)) := by
  intro d
  induction d with
  | zero =>
    intro i f hi hf
    obtain ⟨f, rfl⟩ : ∃ g, f = g + 1 := ⟨f - 1, by omega⟩
    have hi : i = n := by omega
    subst hi
    rw [m_X11_walkers_4, s15 hS]
    unfold o_rf
    dsimp only
    rw [hK]
    dsimp only
    rw [hN, if_pos (Int32.le_refl _)]
  | succ d ih =>
    intro i f hi hf
    obtain ⟨f, rfl⟩ : ∃ g, f = g + 1 := ⟨f - 1, by omega⟩
    have hw := (hv i (by omega)).2.2.2.2.1
    rw [m_X11_walkers_4, s15 hS]
    unfold o_rf
    dsimp only
    rw [hK]
    dsimp only
    rw [hN, if_neg (by rw [zn_le (by omega) (by omega)]; omega), s9 hS]
    unfold o_ix o_bd
    dsimp only
    rw [sn6 hS, if_neg (show ¬ (zn i < 0 ∨ 6 ≤ (zn i).toNatClampNeg) from zn_in (by omega) (by decide)), zn_nat (by omega), (ha i (by omega)).2.2.2.1, show (1 : Int32) - zn (1 - an_w (a i)) = zn (an_w (a i)) by rw [show (1 : Int32) = zn 1 from rfl, zn_sub (by omega)]; congr 1; omega, zn_add, zn_one]
    exact ih (i + 1) f (by omega) (by omega)
theorem m_walkers (hS : SSh G ad s) (hK : KSh G ad) {b : Nat} (hv : vY b Y) (hN : mN ad M (yd_n Y)) (hc : mY ad M s Y) : m_X11_walkers G M (ad s) = some (M, zn (wkA (yd_a Y) (yd_n Y))) :=
  m_walk_loop hS hK hv.2.1 (fun i hi => (hv.2.2 i hi).1) hN hc.2.2 (yd_n Y) 0 fu (by omega) (by have := hv.2.1; unfold fu; omega)
theorem m_counted (hS : SSh G ad s) (hK : KSh G ad) {b : Nat} (hv : vY b Y) (hN : mN ad M (yd_n Y)) (hc : mY ad M s Y) {w : Nat} (h1 : 4 ≤ w) (h2 : w ≤ 9) : m_X11_counted G M (ad s) (zn w) = some (M, zn (aTot Y w)) := by
  obtain ⟨f0, f1, f2, f3⟩ := id hc.2.1
  unfold m_X11_counted
  rw [m_dark hS hc.1, m_sum hS hc.1 hv.1, m_walkers hS hK hv hN hc, f1, f2, f3]
  rcases (show w = 4 ∨ w = 5 ∨ w = 6 ∨ w = 7 ∨ w = 8 ∨ w = 9 by omega) with rfl | rfl | rfl | rfl | rfl | rfl <;> rfl
theorem mYc_paint (hA : Inj ad) (hS : SSh G ad s) (hc : mYc ad M s c) (hv : ∀ p, c p < 6) {p v : Nat} (hp : p < 4096) (hw : v < 6) : p_cl (m_X11_paint G M (ad s) (zn p) (zn v)) (fun M' _ => mYc ad M' s (cSet c p v) ∧ Fr (Bk ad (s + 1) (s + 3)) M M') := by
  have k12 : ad (s + 1) ≠ ad (s + 2) := ad_ne hA (by omega)
  have k21 : ad (s + 2) ≠ ad (s + 1) := ad_ne hA (by omega)
  have hb := hv p
  have hr : p / 64 < 64 := by omega
  obtain ⟨c1, c2⟩ := hc
  unfold m_X11_paint
  rw [show (64 : Int32) = zn 64 from rfl, zn_div (by omega) (by omega)]
  refine c_rf (s5 hS) (c_ck (by decide) (c_ix (by rw [sn2 hS]; exact zn_in hr (by decide)) ?_))
  rw [zn_nat (by omega)]
  have fin : ∀ (x z : Int32), (x - z = zn (if v = 0 then 0 else 1) - zn (if c p = 0 then 0 else 1)) → p_cl (m_X11_paint_33 G (ad s) (zn p) (zn v) M (ad (s + 2)) (zn (p / 64)) (mI M (ad (s + 2)) (p / 64)) x z) (fun M' _ => mYc ad M' s (cSet c p v) ∧ Fr (Bk ad (s + 1) (s + 3)) M M') := by
    intro x z hxz
    unfold m_X11_paint_33
    refine c_ix (by rw [sn2 hS]; exact zn_in hr (by decide)) (c_wI (c_rf (s4 hS) (c_ix (by rw [sn1 hS]; exact zn_in hp (by decide)) (c_wI (c_some ⟨⟨?_, ?_⟩, ?_⟩)))))
    · intro q hq
      rw [zn_nat (by omega), zn_nat (by omega)]
      simp only [mI_wI, upd_at, k12, reduceIte]
      rw [cSet_at]
      split
      · rfl
      · exact c1 q hq
    · intro r hr2
      rw [zn_nat (by omega), zn_nat (by omega)]
      simp only [mI_wI, upd_at, k21, reduceIte]
      by_cases h : r = p / 64
      · rw [if_pos h, h, hxz, c2 (p / 64) hr]
        have := nz_set (c := c) (p := p) (v := v) (b := 64 * (p / 64)) 64 (by omega) (by omega)
        have h2 := congrArg zn this
        rw [← zn_add, ← zn_add] at h2
        grind
      · rw [if_neg h, nz_out 64 (by omega)]
        exact c2 r hr2
    · exact Fr_wI (Fr_wI Fr_rf (Bk_in (by omega) (by omega))) (Bk_in (by omega) (by omega))
  have z1 : zn v ≤ 0 ↔ v = 0 := by rw [show (0 : Int32) = zn 0 from rfl, zn_le (by omega) (by omega)]; omega
  have z2 : zn (c p) ≤ 0 ↔ c p = 0 := by rw [show (0 : Int32) = zn 0 from rfl, zn_le (by omega) (by omega)]; omega
  refine c_if (fun g => ?_) (fun g => ?_)
  · unfold m_X11_paint_19
    refine c_rf (s4 hS) (c_ix (by rw [sn1 hS]; exact zn_in hp (by decide)) ?_)
    rw [zn_nat (by omega), c1 p hp]
    refine c_if (fun g2 => ?_) (fun g2 => ?_)
    · exact fin _ _ (by rw [if_pos (z1.mp g), if_pos (z2.mp g2)]; rfl)
    · exact fin _ _ (by rw [if_pos (z1.mp g), if_neg (fun e => g2 (z2.mpr e))]; rfl)
  · unfold m_X11_paint_19
    refine c_rf (s4 hS) (c_ix (by rw [sn1 hS]; exact zn_in hp (by decide)) ?_)
    rw [zn_nat (by omega), c1 p hp]
    refine c_if (fun g2 => ?_) (fun g2 => ?_)
    · exact fin _ _ (by rw [if_neg (fun e => g (z1.mpr e)), if_pos (z2.mp g2)]; rfl)
    · exact fin _ _ (by rw [if_neg (fun e => g (z1.mpr e)), if_neg (fun e => g2 (z2.mpr e))]; rfl)
theorem m_wash_in (hA : Inj ad) (hS : SSh G ad s) (hv : ∀ p, c p < 6) {r : Nat} (hr : r < 64) {c1 c2 v3 : Int32} (kb : mS → Int32 → Int32 → Option (mS × Int32)) {Q : mS → Int32 → Prop} : ∀ (d k f : Nat) (M : mS), k + d = 64 → d < f → mYc ad M s (cWash c (64 * r) k) → (∀ M', mYc ad M' s (cWash c (64 * r) 64) → Fr (Bk ad (s + 1) (s + 3)) M M' → p_cl (kb M' v3 (zn (r + 1))) Q) → p_cl (m_X11_wash_24 G (ad s) c1 c2 kb f M v3 (zn r) (zn k)) Q := by
  intro d
  induction d with
  | zero =>
    intro k f M hk hf hc hq
    obtain ⟨f, rfl⟩ : ∃ g, f = g + 1 := ⟨f - 1, by omega⟩
    have hk : k = 64 := by omega
    subst hk
    rw [m_X11_wash_24]
    refine c_t (Int32.le_refl _) ?_
    unfold m_X11_wash_60
    refine c_bd ?_
    rw [zn_one]
    exact hq M hc Fr_rf
  | succ d ih =>
    intro k f M hk hf hc hq
    obtain ⟨f, rfl⟩ : ∃ g, f = g + 1 := ⟨f - 1, by omega⟩
    rw [m_X11_wash_24]
    have hle := nz_le (c := cWash c (64 * r) k) (b := 64 * r) 64
    refine c_f (by rw [show (64 : Int32) = zn 64 from rfl, zn_le (by omega) (by omega)]; omega) (c_rf (s5 hS) (c_ix (by rw [sn2 hS]; exact zn_in hr (by decide)) ?_))
    rw [zn_nat (by omega), hc.2 r hr]
    refine c_if (fun g => ?_) (fun g => ?_)
    · rw [show (0 : Int32) = zn 0 from rfl, zn_le (by omega) (by omega)] at g
      unfold m_X11_wash_60
      refine c_bd ?_
      rw [zn_one]
      refine hq M ?_ Fr_rf
      have e : cWash c (64 * r) 64 = cWash c (64 * r) k := by
        have h := cWash_a (c := c) (p := 64 * r) (k := k) (l := 64 - k)
        rw [show k + (64 - k) = 64 by omega] at h
        rw [← h]
        exact cWash_id (fun q q1 q2 => nz_zero (b := 64 * r) 64 (by omega) q (by omega) (by omega))
      rw [e]
      exact hc
    · rw [show (64 : Int32) * zn r + zn k = zn (64 * r + k) by rw [show (64 : Int32) * zn r = zn (64 * r) from zn_mul 64 r, zn_add]]
      refine c_clm (mYc_paint (v := 0) hA hS hc (cWash_lt hv) (by omega) (by decide)) ?_
      rintro M1 _ ⟨h1, h2⟩
      refine c_bd ?_
      rw [zn_one]
      rw [cWash_s] at h1
      exact ih (k + 1) f M1 (by omega) (by omega) h1 (fun M' g1 g2 => hq M' g1 (Fr_tr h2 g2))
theorem m_wash_loop (hA : Inj ad) (hS : SSh G ad s) (hv : ∀ p, c p < 6) {r0 t : Nat} (hr : r0 ≤ t) (ht : t < 64) {w : Nat} {c1 : Int32} : ∀ (d r f : Nat) (M : mS), r + d = t + 1 → r0 ≤ r → d < f → mYc ad M s (cWash c (64 * r0) (64 * (r - r0))) → mI M (ad s) 2 = zn w → p_cl (m_X11_wash_5 G (ad s) c1 (zn t) f M (zn (nz c (64 * r0) (64 * (r - r0)))) (zn r)) (fun M' x => x = zn (nz c (64 * r0) (64 * (t + 1 - r0))) ∧ mYc ad M' s (cWash c (64 * r0) (64 * (t + 1 - r0))) ∧ (∃ M1, M' = wI M1 (ad s) 2 (zn (w + nz c (64 * r0) (64 * (t + 1 - r0)))) ∧ Fr (Bk ad (s + 1) (s + 3)) M M1)) := by
  intro d
  induction d with
  | zero =>
    intro r f M hk h0 hf hc h7
    obtain ⟨f, rfl⟩ : ∃ g, f = g + 1 := ⟨f - 1, by omega⟩
    have hk : r = t + 1 := by omega
    subst hk
    rw [m_X11_wash_5]
    refine c_t (by rw [zn_lt (by omega) (by omega)]; omega) (c_wI (c_some ⟨rfl, ?_, M, by rw [h7, zn_add], Fr_rf⟩))
    exact mYc_Fr (lo := s) (hi := s + 1) hA hc (Fr_wI Fr_rf (Bk_in (by omega) (by omega))) (by omega)
  | succ d ih =>
    intro r f M hk h0 hf hc h7
    obtain ⟨f, rfl⟩ : ∃ g, f = g + 1 := ⟨f - 1, by omega⟩
    have hr0 : nz (cWash c (64 * r0) (64 * (r - r0))) (64 * r) 64 = nz c (64 * r) 64 := nz_congr 64 (fun q h1 h2 => by unfold cWash; rw [if_neg (by omega)])
    have ew : cWash (cWash c (64 * r0) (64 * (r - r0))) (64 * r) 64 = cWash c (64 * r0) (64 * (r + 1 - r0)) := by
      rw [show 64 * r = 64 * r0 + 64 * (r - r0) by omega, cWash_a, show 64 * (r - r0) + 64 = 64 * (r + 1 - r0) by omega]
    have en : nz c (64 * r0) (64 * (r + 1 - r0)) = nz c (64 * r0) (64 * (r - r0)) + nz c (64 * r) 64 := by
      rw [show 64 * (r + 1 - r0) = 64 * (r - r0) + 64 by omega, nz_app, show 64 * r0 + 64 * (r - r0) = 64 * r by omega]
    rw [m_X11_wash_5]
    refine c_f (by rw [zn_lt (by omega) (by omega)]; omega) (c_rf (s5 hS) (c_ix (by rw [sn2 hS]; exact zn_in (by omega) (by decide)) (c_bd ?_)))
    rw [zn_nat (by omega), hc.2 r (by omega), hr0, zn_add, ← en]
    refine m_wash_in hA hS (cWash_lt hv) (r := r) (by omega) _ 64 0 fu M (by omega) (by unfold fu; omega) (by rw [cWash_0]; exact hc) (fun M1 g1 g2 => ?_)
    rw [ew] at g1
    refine c_mono (ih (r + 1) f M1 (by omega) (by omega) (by omega) g1 (by rw [Fr_I hA g2 (k := s) (by omega)]; exact h7)) ?_
    rintro M2 x ⟨e1, e2, M3, e3, e4⟩
    exact ⟨e1, e2, M3, e3, Fr_tr g2 e4⟩
theorem mY_wash (hA : Inj ad) (hS : SSh G ad s) {b : Nat} (hv : vY b Y) (hc : mY ad M s Y) {r t : Nat} (hr : r ≤ t) (ht : t < 64) : p_cl (m_X11_wash G M (ad s) (zn r) (zn t)) (fun M' x => x = zn (nz (yd_c Y) (64 * r) (64 * (t + 1 - r))) ∧ mY ad M' s (aWash r t Y) ∧ Fr (Bk ad s (s + 3)) M M') := by
  unfold m_X11_wash
  have := m_wash_loop (c1 := zn r) hA hS hv.1 hr ht (w := yd_w Y) (t + 1 - r) r fu M (by omega) (Nat.le_refl _) (by unfold fu; omega) (by rw [Nat.sub_self, cWash_0]; exact hc.1) hc.2.1.2.2.1
  rw [Nat.sub_self] at this
  refine c_mono this ?_
  rintro M' x ⟨rfl, h1, M1, rfl, h2⟩
  have hF : Fr (Bk ad s (s + 3)) M (wI M1 (ad s) 2 (zn (yd_w Y + nz (yd_c Y) (64 * r) (64 * (t + 1 - r))))) := Fr_wI (Fr_sub h2 (by omega) (by omega)) (Bk_in (by omega) (by omega))
  refine ⟨rfl, ⟨h1, ?_, mYa_Fr hA hc.2.2 hF (by omega)⟩, hF⟩
  obtain ⟨f0, f1, f2, f3⟩ := mYf_Fr hA hc.2.1 h2 (by omega)
  unfold mYf
  simp only [mI_wI, upd_at, reduceIte, Nat.reduceEqDiff]
  exact ⟨f0, f1, rfl, f3⟩
end YardM
