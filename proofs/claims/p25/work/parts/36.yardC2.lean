/-! the class's yards: washing, counting -/
section YardSpecs2
variable {G : gS} {ad : Nat → Nat} {M : mS} {y : Nat} {Y : aY} {c : Nat → Nat}
theorem c_washRow_loop (hA : Inj ad) (hS : YSh G ad y) (hv : ∀ p, c p < 6) {r : Nat} (hr : r < 64) : ∀ (d k f : Nat) (M : mS), k + d = 64 → d < f → cYc ad M y (cWash c (64 * r) k) → p_cl (m_X8_washRow_2 G (ad y) (zn r) f M (zn k)) (fun M' _ => cYc ad M' y (cWash c (64 * r) 64) ∧ Fr (Bk ad (y + 1) (y + 4)) M M') := by
  intro d
  induction d with
  | zero =>
    intro k f M hk hf hc
    obtain ⟨f, rfl⟩ : ∃ g, f = g + 1 := ⟨f - 1, by omega⟩
    have hk : k = 64 := by omega
    subst hk
    rw [m_X8_washRow_2]
    exact c_t (by decide) (c_some ⟨hc, Fr_rf⟩)
  | succ d ih =>
    intro k f M hk hf hc
    obtain ⟨f, rfl⟩ : ∃ g, f = g + 1 := ⟨f - 1, by omega⟩
    rw [m_X8_washRow_2]
    refine c_f (by rw [show (64 : Int32) = zn 64 from rfl, zn_le (by omega) (by omega)]; omega) ?_
    rw [show zn r * 64 + zn k = zn (64 * r + k) by rw [show zn r * 64 = zn (r * 64) from zn_mul r 64, zn_add, Nat.mul_comm]]
    refine c_clm (cYc_set (v := 0) hA hS hc (cWash_lt hv) (by omega) (by decide)) ?_
    rintro M1 _ ⟨h1, h2⟩
    refine c_bd ?_
    rw [zn_one]
    rw [cWash_s] at h1
    refine c_mono (ih (k + 1) f M1 (by omega) (by omega) h1) ?_
    rintro M2 _ ⟨h3, h4⟩
    exact ⟨h3, Fr_tr h2 h4⟩
theorem c_washRow (hA : Inj ad) (hS : YSh G ad y) (hv : ∀ p, c p < 6) {r : Nat} (hr : r < 64) (hc : cYc ad M y c) : p_cl (m_X8_washRow G M (ad y) (zn r)) (fun M' _ => cYc ad M' y (cWash c (64 * r) 64) ∧ Fr (Bk ad (y + 1) (y + 4)) M M') := by
  unfold m_X8_washRow
  exact c_washRow_loop hA hS hv hr 64 0 fu M (by omega) (by unfold fu; omega) (by rw [cWash_0]; exact hc)
theorem c_washRows_loop (hA : Inj ad) (hS : YSh G ad y) (hv : ∀ p, c p < 6) {r0 t : Nat} (hr : r0 ≤ t) (ht : t < 64) {w : Nat} : ∀ (d r f : Nat) (M : mS), r + d = t + 1 → r0 ≤ r → d < f → cYc ad M y (cWash c (64 * r0) (64 * (r - r0))) → mI M (ad y) 7 = zn w → p_cl (m_X8_washRows_12 G (ad y) (zn r0) (zn t) f M (zn (dk c)) (zn r)) (fun M' x => x = zn (nz c (64 * r0) (64 * (t + 1 - r0))) ∧ cYc ad M' y (cWash c (64 * r0) (64 * (t + 1 - r0))) ∧ (∃ M1, M' = wI M1 (ad y) 7 (zn (w + nz c (64 * r0) (64 * (t + 1 - r0)))) ∧ Fr (Bk ad (y + 1) (y + 4)) M M1)) := by
  intro d
  induction d with
  | zero =>
    intro r f M hk h0 hf hc h7
    obtain ⟨f, rfl⟩ : ∃ g, f = g + 1 := ⟨f - 1, by omega⟩
    have hk : r = t + 1 := by omega
    subst hk
    rw [m_X8_washRows_12]
    refine c_t (by rw [zn_lt (by omega) (by omega)]; omega) ?_
    unfold m_X8_washRows_47
    rw [c_dark hS hc]
    have hd := dk_wash (c := c) (p := 64 * r0) (k := 64 * (t + 1 - r0)) (by omega)
    refine c_cl (c_some (c_bd (c_wI (c_some ⟨?_, ?_, ⟨M, ?_, Fr_rf⟩⟩))))
    · rw [zn_sub (by omega), hd, Nat.add_sub_cancel_left]
    · exact cYc_Fr (lo := y) (hi := y + 1) hA hc (Fr_wI Fr_rf (Bk_in (by omega) (by omega))) (by omega)
    · rw [h7, zn_sub (by omega), zn_add, hd, Nat.add_sub_cancel_left]
  | succ d ih =>
    intro r f M hk h0 hf hc h7
    obtain ⟨f, rfl⟩ : ∃ g, f = g + 1 := ⟨f - 1, by omega⟩
    rw [m_X8_washRows_12]
    have hr0 : nz (cWash c (64 * r0) (64 * (r - r0))) (64 * r) 64 = nz c (64 * r) 64 := nz_congr 64 (fun q h1 h2 => by unfold cWash; rw [if_neg (by omega)])
    have hle := nz_le (c := c) (b := 64 * r) 64
    have ew : cWash (cWash c (64 * r0) (64 * (r - r0))) (64 * r) 64 = cWash c (64 * r0) (64 * (r + 1 - r0)) := by
      rw [show 64 * r = 64 * r0 + 64 * (r - r0) by omega, cWash_a, show 64 * (r - r0) + 64 = 64 * (r + 1 - r0) by omega]
    refine c_f (by rw [zn_lt (by omega) (by omega)]; omega) (c_f (by rw [show (64 : Int32) = zn 64 from rfl, zn_le (by omega) (by omega)]; omega) (c_rf hS.2.1 (c_ix (by rw [hS.2.2.2.2.2.2.1]; exact zn_in (by omega) (by decide)) ?_)))
    rw [zn_nat (by omega), hc.2.1 r (by omega), hr0]
    refine c_if (fun k => ?_) (fun k => ?_)
    · rw [show (0 : Int32) = zn 0 from rfl, zn_le (by omega) (by omega)] at k
      unfold m_X8_washRows_41
      refine c_bd ?_
      dsimp only
      rw [zn_one]
      refine ih (r + 1) f M (by omega) (by omega) (by omega) ?_ h7
      rw [← ew, cWash_id (fun q h1 h2 => nz_zero 64 (by rw [hr0]; omega) q h1 h2)]
      exact hc
    · refine c_clm (c_washRow (r := r) hA hS (cWash_lt hv) (by omega) hc) ?_
      rintro M1 _ ⟨h1, h2⟩
      unfold m_X8_washRows_41
      refine c_bd ?_
      dsimp only
      rw [zn_one]
      rw [ew] at h1
      refine c_mono (ih (r + 1) f M1 (by omega) (by omega) (by omega) h1 (by rw [Fr_I hA h2 (k := y) (by omega)]; exact h7)) ?_
      rintro M2 x ⟨g1, g2, M3, g3, g4⟩
      exact ⟨g1, g2, M3, g3, Fr_tr h2 g4⟩
theorem cY_wash (hA : Inj ad) (hS : YSh G ad y) {b : Nat} (hv : vY b Y) (hc : cY ad M y Y) {r t : Nat} (hr : r ≤ t) (ht : t < 64) : p_cl (m_X8_washRows G M (ad y) (zn r) (zn t)) (fun M' x => x = zn (nz (yd_c Y) (64 * r) (64 * (t + 1 - r))) ∧ cY ad M' y (aWash r t Y) ∧ Fr (Bk ad y (y + 4)) M M') := by
  unfold m_X8_washRows
  rw [c_dark hS hc.1]
  refine c_cl (c_some (c_bd ?_))
  rw [if_neg (zn_nn (by omega))]
  refine c_mono (c_washRows_loop hA hS hv.1 hr ht (w := yd_w Y) (t + 1 - r) r fu M (by omega) (Nat.le_refl _) (by unfold fu; omega) (by rw [Nat.sub_self, cWash_0]; exact hc.1) hc.2.1.2.2.2.1) ?_
  rintro M' x ⟨rfl, h1, M1, rfl, h2⟩
  have hF : Fr (Bk ad y (y + 4)) M (wI M1 (ad y) 7 (zn (yd_w Y + nz (yd_c Y) (64 * r) (64 * (t + 1 - r))))) := Fr_wI (Fr_sub h2 (by omega) (by omega)) (Bk_in (by omega) (by omega))
  refine ⟨rfl, ⟨h1, ?_, cYa_Fr hA hc.2.2 hF (by omega)⟩, hF⟩
  have h3 := cYf_Fr hA hc.2.1 h2 (by omega)
  obtain ⟨f4, f5, f6, f7, f8⟩ := h3
  unfold cYf
  simp only [mI_wI, upd_at, reduceIte, Nat.reduceEqDiff]
  exact ⟨f4, f5, f6, rfl, f8⟩
theorem zn_cond {a b : Nat} (ha : a < 1000000000) (hb : b < 1000000000) : (zn a = zn b) ↔ a = b := zn_inj (by omega) (by omega)
theorem pl_lt {A : aA} (h : vA A) : pl_ A < 4096 := by
  have := h.2.1
  have := h.2.2.1
  unfold pl_
  omega
theorem c_meet1 (hA : Inj ad) (hS : YSh G ad y) {n : Nat} {a : Nat → aA} (hn : n ≤ 6) (hv : ∀ i, i < n → vA (a i)) (kb2 : mS → Int32 → Option (mS × Unit)) {Q : mS → Unit → Prop} {i : Nat} (hi : i < n) {m : Nat} : ∀ (d j f : Nat) (M : mS), j + d = i → d < f → cYa ad M y n a → mI M (ad y) 6 = zn (m + mt1 a i j) → (∀ M', Fr (Bk ad y (y + 1)) M M' → (∀ k, k ≠ 6 → mI M' (ad y) k = mI M (ad y) k) → mI M' (ad y) 6 = zn (m + mt1 a i i) → p_cl (kb2 M' (zn (i + 1))) Q) → p_cl (m_X8_countMeetings_18 G (ad y) kb2 f M (zn i) (zn j)) Q := by
  intro d
  induction d with
  | zero =>
    intro j f M hj hf ha h6 hk
    obtain ⟨f, rfl⟩ : ∃ g, f = g + 1 := ⟨f - 1, by omega⟩
    have hj : j = i := by omega
    subst hj
    rw [m_X8_countMeetings_18]
    refine c_t (Int32.le_refl _) (c_bd ?_)
    rw [zn_one]
    exact hk M Fr_rf (fun _ _ => rfl) h6
  | succ d ih =>
    intro j f M hj hf ha h6 hk
    obtain ⟨f, rfl⟩ : ∃ g, f = g + 1 := ⟨f - 1, by omega⟩
    rw [m_X8_countMeetings_18]
    have p1 := pl_lt (hv i hi)
    have p2 := pl_lt (hv j (by omega))
    refine c_f (by rw [zn_le (by omega) (by omega)]; omega) (c_rf hS.2.2.2.1 (c_ix (by rw [hS.2.2.2.2.2.2.2.2.1]; exact zn_in (by omega) (by decide)) ?_))
    rw [zn_nat (by omega), zn_nat (by omega)]
    refine c_rf (hS.2.2.2.2.1 i (by omega)) ?_
    rw [c_under (ha i hi).1]
    refine c_cl (c_some (c_rf hS.2.2.2.1 (c_ix (by rw [hS.2.2.2.2.2.2.2.2.1]; exact zn_in (by omega) (by decide)) (c_rf (hS.2.2.2.2.1 j (by omega)) ?_))))
    rw [c_under (ha j (by omega)).1]
    refine c_cl (c_some ?_)
    have step : ∀ e : Nat, (e = if pl_ (a i) = pl_ (a j) then 1 else 0) → p_cl (m_X8_countMeetings_54 G (ad y) kb2 (fun M v1 v2 => m_X8_countMeetings_18 G (ad y) kb2 f M v1 v2) M (zn i) (zn j) (mI M (ad y) 6) (zn e)) Q := by
      intro e he
      unfold m_X8_countMeetings_54
      refine c_wI (c_bd ?_)
      dsimp only
      rw [zn_one, h6, zn_add]
      have hF : Fr (Bk ad y (y + 1)) M (wI M (ad y) 6 (zn (m + mt1 a i j + e))) := Fr_wI Fr_rf (Bk_in (by omega) (by omega))
      refine ih (j + 1) f _ (by omega) (by omega) (cYa_Fr hA ha hF (by omega)) ?_ ?_
      · rw [mI_wI, if_pos rfl, upd_at, if_pos rfl, mt1, he, Nat.add_assoc]
      · intro M' g1 g2 g3
        refine hk M' (Fr_tr hF g1) (fun k hk6 => ?_) g3
        rw [g2 k hk6, mI_wI, if_pos rfl, upd_at, if_neg hk6]
    have e2 : (zn (64 * an_y (a i) + an_x (a i)) = zn (64 * an_y (a j) + an_x (a j))) ↔ pl_ (a i) = pl_ (a j) := zn_inj (by unfold pl_ at p1; omega) (by unfold pl_ at p2; omega)
    refine c_if (fun g => ?_) (fun g => ?_)
    · exact step 1 (by rw [if_pos (e2.mp g)])
    · exact step 0 (by rw [if_neg (fun q => g (e2.mpr q))])
theorem c_meet2 (hA : Inj ad) (hS : YSh G ad y) {n : Nat} {a : Nat → aA} (hn : n ≤ 6) (hv : ∀ i, i < n → vA (a i)) {m : Nat} : ∀ (d i f : Nat) (M : mS), i + d = n → d < f → mI M (ad y) 4 = zn n → cYa ad M y n a → mI M (ad y) 6 = zn (m + mtA a i) → p_cl (m_X8_countMeetings_2 G (ad y) f M (zn i)) (fun M' _ => Fr (Bk ad y (y + 1)) M M' ∧ (∀ k, k ≠ 6 → mI M' (ad y) k = mI M (ad y) k) ∧ mI M' (ad y) 6 = zn (m + mtA a n)) := by
  intro d
  induction d with
  | zero =>
    intro i f M hi hf h4 ha h6
    obtain ⟨f, rfl⟩ : ∃ g, f = g + 1 := ⟨f - 1, by omega⟩
    have hi : i = n := by omega
    subst hi
    rw [m_X8_countMeetings_2, h4]
    exact c_t (Int32.le_refl _) (c_some ⟨Fr_rf, fun _ _ => rfl, h6⟩)
  | succ d ih =>
    intro i f M hi hf h4 ha h6
    obtain ⟨f, rfl⟩ : ∃ g, f = g + 1 := ⟨f - 1, by omega⟩
    rw [m_X8_countMeetings_2, h4]
    refine c_f (by rw [zn_le (by omega) (by omega)]; omega) (c_f (by rw [show (6 : Int32) = zn 6 from rfl, zn_le (by omega) (by omega)]; omega) ?_)
    refine c_meet1 hA hS hn hv _ (i := i) (by omega) (m := m + mtA a i) i 0 fu M (by omega) (by unfold fu; omega) ha (by rw [h6]; rfl) ?_
    intro M1 g1 g2 g3
    refine c_mono (ih (i + 1) f M1 (by omega) (by omega) (by rw [g2 4 (by decide)]; exact h4) (cYa_Fr hA ha g1 (by omega)) (by rw [g3, mtA, Nat.add_assoc])) ?_
    rintro M2 _ ⟨h1, h2, h3⟩
    exact ⟨Fr_tr g1 h1, fun k hk => (h2 k hk).trans (g2 k hk), h3⟩
def aMeet (Y : aY) : aY := (yd_c Y, yd_n Y, yd_a Y, yd_t Y, yd_m Y + mtA (yd_a Y) (yd_n Y), yd_w Y, yd_k Y)
theorem cY_meet (hA : Inj ad) (hS : YSh G ad y) {b : Nat} (hv : vY b Y) (hc : cY ad M y Y) : p_cl (m_X8_countMeetings G M (ad y)) (fun M' _ => cY ad M' y (aMeet Y) ∧ Fr (Bk ad y (y + 1)) M M') := by
  unfold m_X8_countMeetings
  obtain ⟨f4, f5, f6, f7, f8⟩ := id hc.2.1
  refine c_mono (c_meet2 hA hS hv.2.1 (fun i hi => (hv.2.2 i hi).1) (m := yd_m Y) (yd_n Y) 0 fu M (by omega) (by have := hv.2.1; unfold fu; omega) f4 hc.2.2 f6) ?_
  rintro M' _ ⟨h1, h2, h3⟩
  refine ⟨⟨cYc_Fr hA hc.1 h1 (by omega), ?_, cYa_Fr hA hc.2.2 h1 (by omega)⟩, h1⟩
  unfold cYf
  rw [h2 4 (by decide), h2 5 (by decide), h2 7 (by decide), h2 8 (by decide), h3]
  exact ⟨f4, f5, rfl, f7, f8⟩
end YardSpecs2
