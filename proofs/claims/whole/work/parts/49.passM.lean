/-! the reference: ants walk, meetings, steps -/
/-- meetings of ant i with those behind it -/
def up1 (a : Nat → aA) (i : Nat) : Nat → Nat
  | 0 => 0
  | o + 1 => up1 a i o + if i < o ∧ pl_ (a i) = pl_ (a o) then 1 else 0
def upA (a : Nat → aA) (n : Nat) : Nat → Nat
  | 0 => 0
  | i + 1 => upA a n i + up1 a i n
theorem up1_0 {a : Nat → aA} {i : Nat} : ∀ j : Nat, j ≤ i + 1 → up1 a i j = 0 := by
  intro j
  induction j with
  | zero => intro _; rfl
  | succ j ih => intro h; rw [up1, ih (by omega), if_neg (by omega)]
theorem upA_s {a : Nat → aA} {n : Nat} : ∀ k : Nat, k ≤ n → upA a (n + 1) k = upA a n k + mt1 a n k := by
  intro k
  induction k with
  | zero => intro _; rfl
  | succ k ih =>
    intro h
    rw [upA, upA, mt1, up1, ih (by omega)]
    by_cases e : pl_ (a k) = pl_ (a n)
    · rw [if_pos ⟨by omega, e⟩, if_pos e.symm]; omega
    · rw [if_neg (fun q => e q.2), if_neg (fun q => e q.symm)]; omega
theorem upA_mt {a : Nat → aA} : ∀ n : Nat, upA a n n = mtA a n := by
  intro n
  induction n with
  | zero => rfl
  | succ n ih => rw [upA, upA_s n (Nat.le_refl _), up1_0 (n + 1) (Nat.le_refl _), ih, mtA]; rfl
section PassM
variable {G : gS} {ad : Nat → Nat} {M : mS} {s : Nat} {P : aP} {Y : aY} {b : Nat} {ru : Nat → Nat} {a : Nat} {A : aA}
theorem mN_Fr (hA : Inj ad) {lo hi n : Nat} {M' : mS} (h : mN ad M n) (hF : Fr (Bk ad lo hi) M M') (hd : 110 < lo ∨ hi ≤ 110) : mN ad M' n := by
  unfold mN
  rw [Fr_I hA hF (k := 110) (by omega)]
  exact h
theorem m_meet1 (hA : Inj ad) (hS : SSh G ad s) (hK : KSh G ad) (hs : s + 12 ≤ 110) {n : Nat} {ar : Nat → aA} (hn : n ≤ 6) (hv : ∀ i, i < n → vA (ar i)) (kb : mS → Int32 → Option (mS × Unit)) {Q : mS → Unit → Prop} {i : Nat} (hi : i < n) {m : Nat} : ∀ (d j f : Nat) (M : mS), j + d = n → i < j → d < f → mN ad M n → mYa ad M s n ar → mI M (ad s) 1 = zn (m + up1 ar i j) → (∀ M', Fr (Bk ad s (s + 1)) M M' → (∀ k, k ≠ 1 → mI M' (ad s) k = mI M (ad s) k) → mI M' (ad s) 1 = zn (m + up1 ar i n) → p_cl (kb M' (zn (i + 1))) Q) → p_cl (m_X11_pass_128 G (ad s) kb f M (zn i) (zn j)) Q := by
  intro d
  induction d with
  | zero =>
    intro j f M hj hij hf hN ha h1 hk
    obtain ⟨f, rfl⟩ : ∃ g, f = g + 1 := ⟨f - 1, by omega⟩
    have hj : j = n := by omega
    subst hj
    rw [m_X11_pass_128]
    refine c_rf (s15 hS) (c_rf hK ?_)
    rw [hN]
    refine c_t (Int32.le_refl _) (c_bd ?_)
    rw [zn_one]
    exact hk M Fr_rf (fun _ _ => rfl) h1
  | succ d ih =>
    intro j f M hj hij hf hN ha h1 hk
    obtain ⟨f, rfl⟩ : ∃ g, f = g + 1 := ⟨f - 1, by omega⟩
    rw [m_X11_pass_128]
    refine c_rf (s15 hS) (c_rf hK ?_)
    rw [hN]
    refine c_f (by rw [zn_le (by omega) (by omega)]; omega) (c_clm (m_isAt hS hn hv ha hi (show j < n by omega)) ?_)
    rintro M1 r ⟨rfl, rfl⟩
    have step : ∀ e : Nat, (e = if i < j ∧ pl_ (ar i) = pl_ (ar j) then 1 else 0) → p_cl (m_X11_pass_161 G (ad s) kb (fun M v1 v2 => m_X11_pass_128 G (ad s) kb f M v1 v2) M1 (zn i) (zn j) (mI M1 (ad s) 1) (zn e)) Q := by
      intro e he
      unfold m_X11_pass_161
      refine c_wI (c_bd ?_)
      dsimp only
      rw [zn_one, h1, zn_add]
      have hF : Fr (Bk ad s (s + 1)) M1 (wI M1 (ad s) 1 (zn (m + up1 ar i j + e))) := Fr_wI Fr_rf (Bk_in (by omega) (by omega))
      refine ih (j + 1) f _ (by omega) (by omega) (by omega) (mN_Fr hA hN hF (by omega)) (mYa_Fr hA ha hF (by omega)) ?_ ?_
      · rw [mI_wI, if_pos rfl, upd_at, if_pos rfl, up1, he, Nat.add_assoc]
      · intro M' g1 g2 g3
        refine hk M' (Fr_tr hF g1) (fun k hk1 => ?_) g3
        rw [g2 k hk1, mI_wI, if_pos rfl, upd_at, if_neg hk1]
    by_cases g : pl_ (ar i) = pl_ (ar j)
    · rw [if_pos g]
      exact c_f (by decide) (step 1 (by rw [if_pos ⟨hij, g⟩]))
    · rw [if_neg g]
      exact c_t rfl (step 0 (by rw [if_neg (fun q => g q.2)]))
theorem m_meet2 (hA : Inj ad) (hS : SSh G ad s) (hK : KSh G ad) (hs : s + 12 ≤ 110) (hv : vY b Y) : ∀ (d i f : Nat) (M : mS), i + d = yd_n Y → d < f → mN ad M (yd_n Y) → mYc ad M s (yd_c Y) → mYa ad M s (yd_n Y) (yd_a Y) → (mI M (ad s) 0 = zn (yd_t Y) ∧ mI M (ad s) 1 = zn (yd_m Y + upA (yd_a Y) (yd_n Y) i) ∧ mI M (ad s) 2 = zn (yd_w Y) ∧ mI M (ad s) 3 = zn (yd_k Y)) → p_cl (m_X11_pass_110 G (ad s) f M (zn i)) (fun M' _ => mY ad M' s (aTick (aMeet Y)) ∧ Fr (Bk ad s (s + 1)) M M') := by
  intro d
  induction d with
  | zero =>
    intro i f M hi hf hN hcc ha ⟨h0, h1, h2, h3⟩
    obtain ⟨f, rfl⟩ : ∃ g, f = g + 1 := ⟨f - 1, by omega⟩
    have hi : i = yd_n Y := by omega
    subst hi
    rw [m_X11_pass_110]
    refine c_rf (s15 hS) (c_rf hK ?_)
    rw [hN]
    have hF : Fr (Bk ad s (s + 1)) M (wI M (ad s) 0 (mI M (ad s) 0 + 1)) := Fr_wI Fr_rf (Bk_in (by omega) (by omega))
    refine c_t (Int32.le_refl _) (c_wI (c_some ⟨⟨mYc_Fr hA hcc hF (by omega), ?_, mYa_Fr hA ha hF (by omega)⟩, hF⟩))
    unfold mYf
    simp only [mI_wI, upd_at, reduceIte, Nat.reduceEqDiff, h0, h1, h2, h3, zn_one, upA_mt]
    exact ⟨rfl, rfl, rfl, rfl⟩
  | succ d ih =>
    intro i f M hi hf hN hcc ha ⟨h0, h1, h2, h3⟩
    obtain ⟨f, rfl⟩ : ∃ g, f = g + 1 := ⟨f - 1, by omega⟩
    have hn := hv.2.1
    rw [m_X11_pass_110]
    refine c_rf (s15 hS) (c_rf hK ?_)
    rw [hN]
    refine c_f (by rw [zn_le (by omega) (by omega)]; omega) (c_bd ?_)
    rw [zn_one]
    refine m_meet1 hA hS hK hs hn (fun i hi => (hv.2.2 i hi).1) _ (i := i) (by omega) (m := yd_m Y + upA (yd_a Y) (yd_n Y) i) (yd_n Y - (i + 1)) (i + 1) fu M (by omega) (by omega) (by unfold fu; omega) hN ha (by rw [h1, up1_0 (i + 1) (Nat.le_refl _)]; rfl) ?_
    intro M1 g1 g2 g3
    refine c_mono (ih (i + 1) f M1 (by omega) (by omega) (mN_Fr hA hN g1 (by omega)) (mYc_Fr hA hcc g1 (by omega)) (mYa_Fr hA ha g1 (by omega)) ⟨by rw [g2 0 (by decide)]; exact h0, by rw [g3, upA, Nat.add_assoc], by rw [g2 2 (by decide)]; exact h2, by rw [g2 3 (by decide)]; exact h3⟩) ?_
    rintro M2 _ ⟨e1, e2⟩
    exact ⟨e1, Fr_tr g1 e2⟩
theorem m_walk (hA : Inj ad) (hS : SSh G ad s) (hK : KSh G ad) (hL : LSh G ad 110) (hs : s + 12 ≤ 110) {i n : Nat} (hv : vYi b i Y) (hb : b < 900000000) (hvP : vP n P) (hr : vR P Y) (hc : mY ad M s Y) (hP : mP ad M P (yd_n Y) ru) (hru : ru i = an_r (yd_a Y i)) (hi : i < yd_n Y) (hw : an_w (yd_a Y i) ≠ 0) : p_cl (m_X11_walk G M (ad s) (zn i)) (fun M' _ => mY ad M' s (aMv P i Y) ∧ Fr (Bk ad s (s + 12)) M M') := by
  have hn := hv.2.1
  have hci := hc.2.2 i hi
  have hvi := hv.2.2 i hi
  rw [if_neg (by omega)] at hvi
  have hri := hr i hi
  have hz := hvP.2.1 _ hri
  have h5 := hvP.1
  have hpl := pl_lt hvi.1
  have hcol := hv.1 (pl_ (yd_a Y i))
  have hm : yd_c Y (pl_ (yd_a Y i)) % pg_z P (an_r (yd_a Y i)) < pg_z P (an_r (yd_a Y i)) := Nat.mod_lt _ (by omega)
  have hm2 : (yd_c Y (pl_ (yd_a Y i)) + 1) % pg_z P (an_r (yd_a Y i)) < pg_z P (an_r (yd_a Y i)) := Nat.mod_lt _ (by omega)
  have ht := hvP.2.2.1 (an_r (yd_a Y i)) (yd_c Y (pl_ (yd_a Y i)) % pg_z P (an_r (yd_a Y i)))
  have hix : vp_in (zn i) 6 := zn_in (by omega) (by decide)
  have ei : (zn i).toNatClampNeg = i := zn_nat (by omega)
  have er : mI M (ad (110 + 4)) i = zn (an_r (yd_a Y i)) := by rw [hP.2.2.2.1 i hi, hru]
  have hrx : vp_in (zn (an_r (yd_a Y i))) 5 := zn_in (by omega) (by decide)
  have ern : (zn (an_r (yd_a Y i))).toNatClampNeg = an_r (yd_a Y i) := zn_nat (by omega)
  have epl : (64 : Int32) * zn (an_y (yd_a Y i)) + zn (an_x (yd_a Y i)) = zn (pl_ (yd_a Y i)) := by rw [show (64 : Int32) * zn (an_y (yd_a Y i)) = zn (64 * an_y (yd_a Y i)) from zn_mul 64 _, zn_add]; rfl
  have epn : (zn (pl_ (yd_a Y i))).toNatClampNeg = pl_ (yd_a Y i) := zn_nat (by omega)
  have ez0 : ¬ zn (pg_z P (an_r (yd_a Y i))) = 0 := by rw [show (0 : Int32) = zn 0 from rfl, zn_inj (by omega) (by omega)]; omega
  have ezr := hP.2.1 _ hri
  unfold m_X11_walk
  refine c_rf (s15 hS) (c_rf hK (c_rf (l6 hL) (c_ix (by rw [ln4 hL]; exact hix) (c_bd (c_rf (s7 hS) (c_ix (by rw [sn4 hS]; exact hix) (c_rf (s6 hS) (c_ix (by rw [sn3 hS]; exact hix) (c_bd ?_)))))))))
  rw [ei, er, hci.1, hci.2.1, epl]
  refine c_rf (s4 hS) (c_ix (by rw [sn1 hS]; exact zn_in hpl (by decide)) (c_rf (s15 hS) (c_rf hK (c_rf (l1 hL) (c_ix (by rw [ln1 hL]; exact hrx) ?_)))))
  rw [epn, ern, hc.1.1 _ hpl, ezr]
  refine c_ck ez0 (c_bd (c_rf (s15 hS) (c_rf hK (c_rf (l2 hL) ?_))))
  rw [zn_mod (by omega) (by omega)]
  have e6 : (6 : Int32) * zn (an_r (yd_a Y i)) + zn (yd_c Y (pl_ (yd_a Y i)) % pg_z P (an_r (yd_a Y i))) = zn (6 * an_r (yd_a Y i) + yd_c Y (pl_ (yd_a Y i)) % pg_z P (an_r (yd_a Y i))) := by rw [show (6 : Int32) * zn (an_r (yd_a Y i)) = zn (6 * an_r (yd_a Y i)) from zn_mul 6 _, zn_add]
  rw [e6]
  refine c_ix (by rw [ln2 hL]; exact zn_in (by omega) (by decide)) (c_bd (c_rf (s8 hS) (c_rf (s8 hS) (c_ix (by rw [sn5 hS]; exact hix) ?_))))
  rw [zn_nat (show 6 * an_r (yd_a Y i) + yd_c Y (pl_ (yd_a Y i)) % pg_z P (an_r (yd_a Y i)) < 2147483648 by omega), hP.2.2.1 _ hri _ hm, hci.2.2.1]
  generalize hte : pg_t P (an_r (yd_a Y i)) (yd_c Y (pl_ (yd_a Y i)) % pg_z P (an_r (yd_a Y i))) = t at ht ⊢
  have hse : (an_s (yd_a Y i) + tb t) % 4 < 4 := Nat.mod_lt _ (by decide)
  have fin : ∀ z : Int32, z = zn (tb t) → p_cl (m_X11_walk_112 G (ad s) (zn i) M (zn (an_r (yd_a Y i))) (zn (pl_ (yd_a Y i))) (zn (yd_c Y (pl_ (yd_a Y i)) % pg_z P (an_r (yd_a Y i)))) (ad (s + 5)) (zn i) (zn (an_s (yd_a Y i))) z) (fun M' _ => mY ad M' s (aMv P i Y) ∧ Fr (Bk ad s (s + 12)) M M') := by
    rintro z rfl
    have h4s := hvi.1.2.2.2.1
    have htb : tb t < 4 := by unfold tb; split <;> (try split) <;> (try split) <;> omega
    have e4 : (zn (an_s (yd_a Y i)) + zn (tb t)) - (zn (an_s (yd_a Y i)) + zn (tb t)) / 4 * 4 = zn ((an_s (yd_a Y i) + tb t) % 4) := by rw [zn_add]; exact zn_mod (a := an_s (yd_a Y i) + tb t) (b := 4) (by omega) (by decide)
    unfold m_X11_walk_112
    rw [e4]
    refine c_ck (by decide) (c_ix (by rw [sn5 hS]; exact hix) (c_wI ?_))
    rw [ei]
    obtain ⟨q1, q2, q3⟩ := mA_turn (t := (an_s (yd_a Y i) + tb t) % 4) hA hci
    generalize wI M (ad (s + 5)) i (zn ((an_s (yd_a Y i) + tb t) % 4)) = M1 at q1 q2 q3 ⊢
    have hP1 := mP_Fr hA hP q3 (by omega)
    refine c_rf (s15 hS) (c_rf hK (c_rf (l1 hL) (c_ix (by rw [ln1 hL]; exact hrx) ?_)))
    rw [ern, hP1.2.1 _ hri]
    refine c_ck ez0 ?_
    rw [show zn (yd_c Y (pl_ (yd_a Y i)) % pg_z P (an_r (yd_a Y i))) + 1 = zn (yd_c Y (pl_ (yd_a Y i)) % pg_z P (an_r (yd_a Y i)) + 1) from zn_one _, zn_mod (by omega) (by omega), show (yd_c Y (pl_ (yd_a Y i)) % pg_z P (an_r (yd_a Y i)) + 1) % pg_z P (an_r (yd_a Y i)) = (yd_c Y (pl_ (yd_a Y i)) + 1) % pg_z P (an_r (yd_a Y i)) from Nat.mod_add_mod _ _ _]
    refine c_clm (mYc_paint hA hS (mYc_Fr hA hc.1 q3 (by omega)) hv.1 hpl (Nat.lt_of_lt_of_le hm2 hz.2)) ?_
    rintro M2 _ ⟨p1, p2⟩
    have q4 := mA_Fr hA q1 p2 (by omega)
    refine c_rf (s8 hS) (c_ix (by rw [sn5 hS]; exact hix) ?_)
    rw [q4.2.2.1]
    refine c_clm (m_go (t := (an_s (yd_a Y i) + tb t) % 4) hA hS (by omega) (A := anTurn ((an_s (yd_a Y i) + tb t) % 4) (yd_a Y i)) ⟨hvi.1.1, hvi.1.2.1, hvi.1.2.2.1, hse, hvi.1.2.2.2.2.1, hvi.1.2.2.2.2.2⟩ (show an_n (yd_a Y i) < 1000000000 by omega) hse rfl q4) ?_
    rintro M3 _ ⟨g1, g2, g3⟩
    have hO : Oth ad M M3 s i := Oth_tr q2 (Oth_tr (Oth_Fr hA p2 (by omega)) g2)
    refine c_some ⟨?_, Fr_tr (Fr_sub q3 (by omega) (by omega)) (Fr_tr (Fr_sub p2 (by omega) (by omega)) (Fr_sub g3 (by omega) (by omega)))⟩
    unfold aMv
    rw [if_neg hw, hte]
    exact ⟨mYc_Fr hA p1 g3 (by omega), mYf_Fr hA (mYf_Fr hA (mYf_Fr hA hc.2.1 q3 (by omega)) p2 (by omega)) g3 (by omega), mYa_ant hc.2.2 hO g1⟩
  have e0 : (zn t = 0) ↔ t = 0 := zn_inj (b := 0) (by omega) (by decide)
  have e1 : (zn t = 1) ↔ t = 1 := zn_inj (b := 1) (by omega) (by decide)
  have e2 : (zn t = 2) ↔ t = 2 := zn_inj (b := 2) (by omega) (by decide)
  refine c_if (fun g => ?_) (fun g => ?_)
  · exact fin 3 (by rw [e0.mp g]; rfl)
  · refine c_if (fun g2 => ?_) (fun g2 => ?_)
    · exact fin 1 (by rw [e1.mp g2]; rfl)
    · refine c_if (fun g3 => ?_) (fun g3 => ?_)
      · exact fin 0 (by rw [e2.mp g3]; rfl)
      · refine fin 2 ?_
        unfold tb
        rw [if_neg (fun h => g (e0.mpr h)), if_neg (fun h => g2 (e1.mpr h)), if_neg (fun h => g3 (e2.mpr h))]
        rfl
theorem m_moves (hA : Inj ad) (hS : SSh G ad s) (hK : KSh G ad) (hL : LSh G ad 110) (hs : s + 12 ≤ 110) {n : Nat} {Y0 : aY} (hv0 : vY b Y0) (hr0 : vR P Y0) (hb : b < 900000000) (hvP : vP n P) (hru : ∀ i, ru i = an_r (yd_a Y0 i)) : ∀ (d i f : Nat) (M : mS), i + d = yd_n Y0 → d < f → mY ad M s (aMvs P Y0 i) → mP ad M P (yd_n Y0) ru → p_cl (m_X11_pass_74 G (ad s) f M (zn i)) (fun M' _ => mY ad M' s (aTick (aMeet (aMvs P Y0 (yd_n Y0)))) ∧ Fr (Bk ad s (s + 12)) M M') := by
  intro d
  induction d with
  | zero =>
    intro i f M hi hf hc hP
    obtain ⟨f, rfl⟩ : ∃ g, f = g + 1 := ⟨f - 1, by omega⟩
    have hi : i = yd_n Y0 := by omega
    subst hi
    have hv := aMvs_v hvP hv0 hr0 (yd_n Y0) (Nat.le_refl _)
    rw [m_X11_pass_74]
    refine c_rf (s15 hS) (c_rf hK ?_)
    rw [hP.1.2.1]
    refine c_t (Int32.le_refl _) ?_
    have := m_meet2 hA hS hK hs (vYi_v hv.1) (yd_n (aMvs P Y0 (yd_n Y0))) 0 fu M (by omega) (by have := hv.1.2.1; unfold fu; omega) (by rw [aMvs_n]; exact hP.1.2.1) hc.1 hc.2.2 ⟨hc.2.1.1, hc.2.1.2.1, hc.2.1.2.2.1, hc.2.1.2.2.2⟩
    refine c_mono this ?_
    rintro M1 _ ⟨h1, h2⟩
    exact ⟨h1, Fr_sub h2 (by omega) (by omega)⟩
  | succ d ih =>
    intro i f M hi hf hc hP
    obtain ⟨f, rfl⟩ : ∃ g, f = g + 1 := ⟨f - 1, by omega⟩
    have hv := aMvs_v hvP hv0 hr0 i (by omega)
    have hn := hv0.2.1
    have hin : i < yd_n (aMvs P Y0 i) := by rw [aMvs_n]; omega
    have hw2 := (hv.1.2.2 i hin).1.2.2.2.2.1
    rw [m_X11_pass_74]
    refine c_rf (s15 hS) (c_rf hK ?_)
    rw [hP.1.2.1]
    refine c_f (by rw [zn_le (by omega) (by omega)]; omega) (c_rf (s9 hS) (c_ix (by rw [sn6 hS]; exact zn_in (by omega) (by decide)) ?_))
    rw [zn_nat (by omega), (hc.2.2 i hin).2.2.2.1]
    have e0 : (zn (1 - an_w (yd_a (aMvs P Y0 i) i)) = 0) ↔ ¬ an_w (yd_a (aMvs P Y0 i) i) = 0 := by rw [show (0 : Int32) = zn 0 from rfl, zn_inj (by omega) (by decide)]; omega
    refine c_if (fun q => ?_) (fun q => ?_)
    · refine c_clm (m_walk hA hS hK hL hs hv.1 hb hvP hv.2 hc (by rw [aMvs_n]; exact hP) (by rw [aMvs_r]; exact hru i) hin (e0.mp q)) ?_
      rintro M1 _ ⟨h1, h2⟩
      unfold m_X11_pass_102
      refine c_bd ?_
      dsimp only
      rw [zn_one]
      refine c_mono (ih (i + 1) f M1 (by omega) (by omega) h1 (mP_Fr hA hP h2 (by omega))) ?_
      rintro M2 _ ⟨h3, h4⟩
      exact ⟨h3, Fr_tr h2 h4⟩
    · unfold m_X11_pass_102
      refine c_bd ?_
      dsimp only
      rw [zn_one]
      refine ih (i + 1) f M (by omega) (by omega) ?_ hP
      rw [aMvs]
      unfold aMv
      rw [if_pos (Decidable.not_not.mp (fun h => q (e0.mpr h)))]
      exact hc
theorem m_step_loop (hA : Inj ad) (hS : SSh G ad s) (hK : KSh G ad) (hL : LSh G ad 110) (hs : s + 12 ≤ 110) {Y0 : aY} (hv0 : vY b Y0) (hr0 : vR P Y0) (hb : b < 900000000) (hvP : vP (yd_n Y0) P) (hru : ∀ i, ru i = an_r (yd_a Y0 i)) : ∀ (d k f : Nat) (M : mS), k + d = pg_o P → d < f → mY ad M s (aOrds P Y0 k) → mP ad M P (yd_n Y0) ru → p_cl (m_X11_pass_2 G (ad s) f M (zn k)) (fun M' _ => mY ad M' s (aStep P Y0) ∧ Fr (Bk ad s (s + 12)) M M') := by
  intro d
  induction d with
  | zero =>
    intro k f M hk hf hc hP
    obtain ⟨f, rfl⟩ : ∃ g, f = g + 1 := ⟨f - 1, by omega⟩
    have hk : k = pg_o P := by omega
    subst hk
    have h := aOrds_v hvP hv0 hr0 (pg_o P) (Nat.le_refl _)
    rw [m_X11_pass_2]
    refine c_rf (s15 hS) (c_rf hK ?_)
    rw [hP.1.2.2]
    refine c_t (Int32.le_refl _) ?_
    have := m_moves (ru := ru) hA hS hK hL hs h.1 h.2 hb hvP (fun i => by rw [aOrds_r]; exact hru i) (yd_n Y0) 0 fu M (by rw [aOrds_n]; omega) (by have := hv0.2.1; unfold fu; omega) hc (by rw [aOrds_n]; exact hP)
    rw [aOrds_n] at this
    exact this
  | succ d ih =>
    intro k f M hk hf hc hP
    obtain ⟨f, rfl⟩ : ∃ g, f = g + 1 := ⟨f - 1, by omega⟩
    have h20 := hvP.2.2.2.1
    have h := aOrds_v hvP hv0 hr0 k (by omega)
    have hvPk : vP (yd_n (aOrds P Y0 k)) P := by rw [aOrds_n]; exact hvP
    have hix : vp_in (zn k) 21 := zn_in (by omega) (by decide)
    obtain ⟨q, t1, t2, t3, t4⟩ := hP.2.2.2.2.2 k (by omega)
    rw [m_X11_pass_2]
    refine c_rf (s15 hS) (c_rf hK ?_)
    rw [hP.1.2.2]
    refine c_f (by rw [zn_le (by omega) (by omega)]; omega) (c_rf (s15 hS) (c_rf hK (c_rf (l16 hL) (c_ix (by rw [ln12 hL]; exact hix) (c_rf (s15 hS) (c_rf hK (c_rf (l17 hL) (c_ix (by rw [ln13 hL]; exact hix) ?_))))))))
    rw [zn_nat (show k < 2147483648 by omega), t1, t2]
    refine c_clm (m_carryOut hA hS hK hL hs h.1 (by omega) hvPk hc (by rw [aOrds_n]; exact hP.1.2.1) (k := k) (by omega) t3 t4) ?_
    rintro M1 r ⟨rfl, h2⟩
    have hP1 := mP_Fr hA hP h2 (by omega)
    have hc1 := mY_Fr hA hc h2 (by omega)
    have go : ∀ (M2 : mS), mY ad M2 s (aOrd P k (aOrds P Y0 k)) → Fr (Bk ad s (s + 12)) M1 M2 → p_cl (m_X11_pass_66 G (ad s) (fun M v1 => m_X11_pass_2 G (ad s) f M v1) M2 (zn k)) (fun M' _ => mY ad M' s (aStep P Y0) ∧ Fr (Bk ad s (s + 12)) M M') := by
      intro M2 g1 g2
      unfold m_X11_pass_66
      refine c_bd ?_
      dsimp only
      rw [zn_one]
      refine c_mono (ih (k + 1) f M2 (by omega) (by omega) g1 (mP_Fr hA hP1 g2 (by omega))) ?_
      rintro M3 _ ⟨g3, g4⟩
      exact ⟨g3, Fr_tr (Fr_sub h2 (by omega) (by omega)) (Fr_tr g2 g4)⟩
    rcases ev01 (k := k) h.1 hvPk (by omega) with hh | hh
    · refine c_f (by rw [hh]; decide) (go M1 ?_ Fr_rf)
      rw [aOrd, if_pos hh]
      exact hc1
    · refine c_t hh (c_clm (m_orders hA hS hK hL hs h.1 hvPk hc1 (by rw [aOrds_n]; exact hP1) (k := k) (by omega)) ?_)
      rintro M2 r ⟨rfl, g1, g2⟩
      have eO : aOrd P k (aOrds P Y0 k) = if (aCarry P k (aOrds P Y0 k)).2 then aOne (aCarry P k (aOrds P Y0 k)).1 else (aCarry P k (aOrds P Y0 k)).1 := by
        rw [aOrd, if_neg (by rw [hh]; decide)]
      cases hcc : (aCarry P k (aOrds P Y0 k)).2 with
      | true =>
        rw [hcc] at eO
        have q := mY_one hA g1
        exact c_f (by decide) (c_wI (go _ (by rw [eO]; exact q.1) (Fr_tr g2 q.2)))
      | false =>
        rw [hcc] at eO
        exact c_t (by decide) (go _ (by rw [eO]; exact g1) g2)
theorem m_step (hA : Inj ad) (hS : SSh G ad s) (hK : KSh G ad) (hL : LSh G ad 110) (hs : s + 12 ≤ 110) (hv : vY b Y) (hr : vR P Y) (hb : b < 900000000) (hvP : vP (yd_n Y) P) (hru : ∀ i, ru i = an_r (yd_a Y i)) (hc : mY ad M s Y) (hP : mP ad M P (yd_n Y) ru) : p_cl (m_X11_pass G M (ad s)) (fun M' _ => mY ad M' s (aStep P Y) ∧ mP ad M' P (yd_n Y) ru ∧ Fr (Bk ad s (s + 12)) M M') := by
  unfold m_X11_pass
  refine c_mono (m_step_loop hA hS hK hL hs hv hr hb hvP hru (pg_o P) 0 fu M (by omega) (by have := hvP.2.2.2.1; unfold fu; omega) hc hP) ?_
  rintro M1 _ ⟨h1, h2⟩
  exact ⟨h1, mP_Fr hA hP h2 (by omega), h2⟩
theorem m_steps_loop (hA : Inj ad) (hS : SSh G ad s) (hK : KSh G ad) (hL : LSh G ad 110) (hs : s + 12 ≤ 110) {Y0 : aY} (hv0 : vY b Y0) (hr0 : vR P Y0) (hvP : vP (yd_n Y0) P) (hru : ∀ i, ru i = an_r (yd_a Y0 i)) {t : Nat} (ht : t ≤ 5000) (hb : b + t < 900000000) : ∀ (d k f : Nat) (M : mS), k + d = t → d < f → mY ad M s (aSteps P Y0 k) → mP ad M P (yd_n Y0) ru → p_cl (m_X11_pass__2 G (ad s) (zn t) f M (zn k)) (fun M' r => r = ad s ∧ mY ad M' s (aSteps P Y0 t) ∧ Fr (Bk ad s (s + 12)) M M') := by
  intro d
  induction d with
  | zero =>
    intro k f M hk hf hc hP
    obtain ⟨f, rfl⟩ : ∃ g, f = g + 1 := ⟨f - 1, by omega⟩
    have hk : k = t := by omega
    subst hk
    rw [m_X11_pass__2]
    exact c_t (Int32.le_refl _) (c_some ⟨rfl, hc, Fr_rf⟩)
  | succ d ih =>
    intro k f M hk hf hc hP
    obtain ⟨f, rfl⟩ : ∃ g, f = g + 1 := ⟨f - 1, by omega⟩
    have h := aSteps_v hvP hv0 hr0 k
    rw [m_X11_pass__2]
    refine c_f (by rw [zn_le (by omega) (by omega)]; omega) (c_clm (m_step (ru := ru) hA hS hK hL hs h.1 h.2 (by omega) (by rw [aSteps_n]; exact hvP) (fun i => by rw [aSteps_r]; exact hru i) hc (by rw [aSteps_n]; exact hP)) ?_)
    rintro M1 _ ⟨g1, g2, g3⟩
    refine c_bd ?_
    rw [zn_one]
    rw [aSteps_n] at g2
    refine c_mono (ih (k + 1) f M1 (by omega) (by omega) g1 g2) ?_
    rintro M2 r ⟨e0, e1, e2⟩
    exact ⟨e0, e1, Fr_tr g3 e2⟩
theorem m_steps (hA : Inj ad) (hS : SSh G ad s) (hK : KSh G ad) (hL : LSh G ad 110) (hs : s + 12 ≤ 110) (hv : vY b Y) (hr : vR P Y) (hvP : vP (yd_n Y) P) (hru : ∀ i, ru i = an_r (yd_a Y i)) {t : Nat} (ht : t ≤ 5000) (hb : b + t < 900000000) (hc : mY ad M s Y) (hP : mP ad M P (yd_n Y) ru) : p_cl (m_X11_pass_ G M (ad s) (zn t)) (fun M' r => r = ad s ∧ mY ad M' s (aSteps P Y t) ∧ Fr (Bk ad s (s + 12)) M M') :=
  m_steps_loop hA hS hK hL hs hv hr hvP hru ht hb t 0 fu M (by omega) (by unfold fu; omega) hc hP
theorem m_hw_loop (hS : SSh G ad s) (hK : KSh G ad) (hv : vY b Y) (hb : b < 1000000000) (hN : mN ad M (yd_n Y)) (hc : mY ad M s Y) : ∀ (d i f : Nat), i + d = yd_n Y → d < f → (∀ k, k < i → anP (yd_a Y k) = 0) → p_cl (m_X11_isAnyOnHighway_2 G (ad s) f M (zn i)) (fun M' r => M' = M ∧ r = if hwB (yd_a Y) (yd_n Y) then 1 else 0) := by
  intro d
  induction d with
  | zero =>
    intro i f hi hf hno
    obtain ⟨f, rfl⟩ : ∃ g, f = g + 1 := ⟨f - 1, by omega⟩
    rw [m_X11_isAnyOnHighway_2]
    refine c_rf (s15 hS) (c_rf hK ?_)
    rw [hN]
    refine c_t (by rw [show i = yd_n Y by omega]; exact Int32.le_refl _) (c_ck (Or.inl rfl) (c_some ⟨rfl, ?_⟩))
    rw [if_neg]
    intro h
    obtain ⟨k, k1, k2⟩ := hwB_t.mp h
    exact k2 (hno k (by omega))
  | succ d ih =>
    intro i f hi hf hno
    obtain ⟨f, rfl⟩ : ∃ g, f = g + 1 := ⟨f - 1, by omega⟩
    have hn := hv.2.1
    have hvi := hv.2.2 i (by omega)
    rw [m_X11_isAnyOnHighway_2]
    refine c_rf (s15 hS) (c_rf hK ?_)
    rw [hN, m_per hS (show i < 6 by omega) hvi.1 (by omega) (hc.2.2 i (by omega))]
    refine c_f (by rw [zn_le (by omega) (by omega)]; omega) (c_cl (c_some ?_))
    have hp : anP (yd_a Y i) ≤ 120 := per_le
    refine c_if (fun k => ?_) (fun k => ?_)
    · rw [show (0 : Int32) = zn 0 from rfl, zn_le (by omega) (by omega)] at k
      refine c_bd ?_
      rw [zn_one]
      refine ih (i + 1) f (by omega) (by omega) (fun j hj => ?_)
      by_cases e : j = i
      · rw [e]; omega
      · exact hno j (by omega)
    · rw [show (0 : Int32) = zn 0 from rfl, zn_le (by omega) (by omega)] at k
      refine c_ck (Or.inr rfl) (c_some ⟨rfl, ?_⟩)
      rw [if_pos (hwB_t.mpr ⟨i, by omega, by omega⟩)]
theorem m_hw (hS : SSh G ad s) (hK : KSh G ad) (hv : vY b Y) (hb : b < 1000000000) (hN : mN ad M (yd_n Y)) (hc : mY ad M s Y) : m_X11_isAnyOnHighway G M (ad s) = some (M, if hwB (yd_a Y) (yd_n Y) then 1 else 0) :=
  cl_eq (m_hw_loop hS hK hv hb hN hc (yd_n Y) 0 fu (by omega) (by have := hv.2.1; unfold fu; omega) (fun k hk => by omega))
end PassM
