/-! the reference: orders, steps -/
/-- the plan that stands -/
def mP (ad : Nat → Nat) (M : mS) (P : aP) (n : Nat) (ru : Nat → Nat) : Prop := (mI M (ad 110) 0 = zn (pg_r P) ∧ mI M (ad 110) 3 = zn n ∧ mI M (ad 110) 11 = zn (pg_o P)) ∧ (∀ r, r < pg_r P → mI M (ad (110 + 1)) r = zn (pg_z P r)) ∧ (∀ r, r < pg_r P → ∀ k, k < pg_z P r → mI M (ad (110 + 2)) (6 * r + k) = zn (pg_t P r k)) ∧ (∀ i, i < n → mI M (ad (110 + 4)) i = zn (ru i)) ∧ (∀ k, k < pg_o P → mI M (ad (110 + 9)) k = zn (pg_k P k - 200) ∧ mI M (ad (110 + 10)) k = zn (pg_f P k) ∧ mI M (ad (110 + 11)) k = zn (pg_s P k)) ∧ ∀ k, k < pg_o P → ∃ q, mI M (ad (110 + 12)) k = zn q ∧ mI M (ad (110 + 13)) k = zn (q + (encL (pg_T P k)).length) ∧ q + (encL (pg_T P k)).length ≤ 800 ∧ ∀ j, j < (encL (pg_T P k)).length → mI M (ad (110 + 14)) (q + j) = (encL (pg_T P k)).getD j 0
theorem mP_Fr {ad : Nat → Nat} (hA : Inj ad) {lo hi : Nat} {M M' : mS} {P : aP} {n : Nat} {ru : Nat → Nat} (h : mP ad M P n ru) (hF : Fr (Bk ad lo hi) M M') (hd : 126 ≤ lo ∨ hi ≤ 110) : mP ad M' P n ru := by
  unfold mP
  rw [Fr_I hA hF (k := 110) (by omega), Fr_I hA hF (k := 110 + 1) (by omega), Fr_I hA hF (k := 110 + 2) (by omega), Fr_I hA hF (k := 110 + 4) (by omega), Fr_I hA hF (k := 110 + 9) (by omega), Fr_I hA hF (k := 110 + 10) (by omega), Fr_I hA hF (k := 110 + 11) (by omega), Fr_I hA hF (k := 110 + 12) (by omega), Fr_I hA hF (k := 110 + 13) (by omega), Fr_I hA hF (k := 110 + 14) (by omega)]
  exact h
section StepRu
variable {P : aP} {Y : aY} {k i : Nat}
theorem aAnt_r {j : Nat} {A : aA} (h : an_r A = an_r (yd_a Y j)) : an_r (yd_a (aAnt j A Y) i) = an_r (yd_a Y i) := by
  rw [aAnt_at]
  split
  · next e => rw [h, e]
  · rfl
theorem aCarry_r : an_r (yd_a (aCarry P k Y).1 i) = an_r (yd_a Y i) := by
  unfold aCarry
  split
  · rfl
  · split
    · split
      · rfl
      · exact aAnt_r rfl
    · exact aAnt_r rfl
theorem aOrd_r : an_r (yd_a (aOrd P k Y) i) = an_r (yd_a Y i) := by
  unfold aOrd
  split
  · rfl
  · split
    · exact aCarry_r
    · exact aCarry_r
theorem aOrds_r : ∀ k : Nat, an_r (yd_a (aOrds P Y k) i) = an_r (yd_a Y i) := by
  intro k
  induction k with
  | zero => rfl
  | succ k ih => rw [aOrds, aOrd_r, ih]
theorem aMv_r {j : Nat} : an_r (yd_a (aMv P j Y) i) = an_r (yd_a Y i) := by
  unfold aMv
  split
  · rfl
  · exact aAnt_r (Y := aSet _ _ Y) rfl
theorem aMvs_r : ∀ j : Nat, an_r (yd_a (aMvs P Y j) i) = an_r (yd_a Y i) := by
  intro j
  induction j with
  | zero => rfl
  | succ j ih => rw [aMvs, aMv_r, ih]
theorem aStep_r : an_r (yd_a (aStep P Y) i) = an_r (yd_a Y i) := by
  show an_r (yd_a (aMvs P (aOrds P Y (pg_o P)) (yd_n Y)) i) = _
  rw [aMvs_r, aOrds_r]
theorem aSteps_r : ∀ j : Nat, an_r (yd_a (aSteps P Y j) i) = an_r (yd_a Y i) := by
  intro j
  induction j with
  | zero => rfl
  | succ j ih => rw [aSteps, aStep_r, ih]
end StepRu
section StepM
variable {G : gS} {ad : Nat → Nat} {M : mS} {s : Nat} {P : aP} {Y : aY} {b : Nat} {ru : Nat → Nat} {a : Nat} {A : aA}
theorem mYa_ant {ar : Nat → aA} {n i : Nat} {M' : mS} (h : mYa ad M s n ar) (hO : Oth ad M M' s i) (h1 : mA ad M' s i A) : mYa ad M' s n (fun k => if k = i then A else ar k) := fun k hk => by
  show mA ad M' s k (if k = i then A else ar k)
  by_cases e : k = i
  · rw [if_pos e, e]; exact h1
  · rw [if_neg e]; exact mA_oth (h k hk) hO e
theorem mY_ant (hA : Inj ad) {i : Nat} {M' : mS} (hc : mY ad M s Y) (hO : Oth ad M M' s i) (h1 : mA ad M' s i A) (hF : Fr (Bk ad (s + 3) (s + 11)) M M') : mY ad M' s (aAnt i A Y) := ⟨mYc_Fr hA hc.1 hF (by omega), mYf_Fr hA hc.2.1 hF (by omega), mYa_ant hc.2.2 hO h1⟩
theorem Oth_Fr (hA : Inj ad) {lo hi : Nat} {M' : mS} (hF : Fr (Bk ad lo hi) M M') (hd : hi ≤ s + 3 ∨ s + 11 ≤ lo) : Oth ad M M' s a := by
  unfold Oth
  rw [Fr_I hA hF (k := s + 3) (by omega), Fr_I hA hF (k := s + 4) (by omega), Fr_I hA hF (k := s + 5) (by omega), Fr_I hA hF (k := s + 6) (by omega), Fr_I hA hF (k := s + 7) (by omega), Fr_I hA hF (k := s + 8) (by omega), Fr_I hA hF (k := s + 9) (by omega), Fr_I hA hF (k := s + 10) (by omega)]
  exact ⟨fun _ _ => ⟨rfl, rfl, rfl, rfl, rfl, rfl⟩, fun _ _ => rfl, fun _ _ => rfl⟩
/-- one cell of a row of the ants is written -/
theorem Oth_w (hA : Inj ad) {k : Nat} {v : Int32} (h1 : s + 3 ≤ k) (h2 : k ≤ s + 8) : Oth ad M (wI M (ad k) a v) s a := by
  have e : ∀ j, mI (wI M (ad k) a v) (ad j) = if j = k then upd (mI M (ad k)) a v else mI M (ad j) := fun j => by
    rw [mI_wI]
    by_cases h : j = k
    · rw [if_pos (by rw [h]), if_pos h]
    · rw [if_neg (ad_ne hA h), if_neg h]
  have f : ∀ j i, i ≠ a → mI (wI M (ad k) a v) (ad j) i = mI M (ad j) i := fun j i hi => by
    rw [e]
    split
    · next h => rw [upd_at, if_neg hi, h]
    · rfl
  refine ⟨fun i hi => ⟨f _ _ hi, f _ _ hi, f _ _ hi, f _ _ hi, f _ _ hi, f _ _ hi⟩, fun j hj => ?_, fun j hj => ?_⟩
  · rw [e, if_neg (by omega)]
  · rw [e, if_neg (by omega)]
theorem mA_face (hA : Inj ad) (hS : SSh G ad s) (ha : a < 6) (hc : mA ad M s a A) {t : Nat} : p_cl (m_X11_forget G (wI M (ad (s + 5)) a (zn t)) (ad s) (zn a)) (fun M' _ => mA ad M' s a (anFace t A) ∧ Oth ad M M' s a ∧ Fr (Bk ad (s + 3) (s + 11)) M M') := by
  obtain ⟨h3, h4, h5, h6, h7, h8, h9, h10⟩ := hc
  refine c_mono (m_forget hA hS ha) ?_
  rintro M' _ ⟨g1, g2, g3, g4, g5⟩
  have e : ∀ k, k ≠ s + 5 → mI (wI M (ad (s + 5)) a (zn t)) (ad k) = mI M (ad k) := fun k hk => by rw [mI_wI, if_neg (ad_ne hA hk)]
  refine ⟨mA_none rfl ?_ ?_ ?_ ?_ ?_ ?_ g2, Oth_tr (Oth_w hA (by omega) (by omega)) g4, Fr_tr (Fr_wI Fr_rf (Bk_in (by omega) (by omega))) (Fr_sub g5 (by omega) (by omega))⟩
  · rw [g3 (s + 3) (by omega) (by omega), e _ (by omega)]; exact h3
  · rw [g3 (s + 4) (by omega) (by omega), e _ (by omega)]; exact h4
  · rw [g3 (s + 5) (by omega) (by omega), mI_wI, if_pos rfl, upd_at, if_pos rfl]; rfl
  · rw [g3 (s + 6) (by omega) (by omega), e _ (by omega)]; exact h6
  · rw [g3 (s + 7) (by omega) (by omega), e _ (by omega)]; exact h7
  · rw [g1, upd_at, if_pos rfl]
theorem mA_place (hA : Inj ad) (hS : SSh G ad s) (ha : a < 6) (hc : mA ad M s a A) {x y : Nat} : p_cl (m_X11_forget G (wI (wI M (ad (s + 3)) a (zn x)) (ad (s + 4)) a (zn y)) (ad s) (zn a)) (fun M' _ => mA ad M' s a (anMove x y A) ∧ Oth ad M M' s a ∧ Fr (Bk ad (s + 3) (s + 11)) M M') := by
  obtain ⟨h3, h4, h5, h6, h7, h8, h9, h10⟩ := hc
  refine c_mono (m_forget hA hS ha) ?_
  rintro M' _ ⟨g1, g2, g3, g4, g5⟩
  have n34 : ad (s + 3) ≠ ad (s + 4) := ad_ne hA (by omega)
  have e : ∀ k, k ≠ s + 3 → k ≠ s + 4 → mI (wI (wI M (ad (s + 3)) a (zn x)) (ad (s + 4)) a (zn y)) (ad k) = mI M (ad k) := fun k hk hk2 => by rw [mI_wI, if_neg (ad_ne hA hk2), mI_wI, if_neg (ad_ne hA hk)]
  refine ⟨mA_none rfl ?_ ?_ ?_ ?_ ?_ ?_ g2, Oth_tr (Oth_w hA (by omega) (by omega)) (Oth_tr (Oth_w hA (by omega) (by omega)) g4), Fr_tr (Fr_wI (Fr_wI Fr_rf (Bk_in (by omega) (by omega))) (Bk_in (by omega) (by omega))) (Fr_sub g5 (by omega) (by omega))⟩
  · rw [g3 (s + 3) (by omega) (by omega), mI_wI, if_neg n34, mI_wI, if_pos rfl, upd_at, if_pos rfl]; rfl
  · rw [g3 (s + 4) (by omega) (by omega), mI_wI, if_pos rfl, upd_at, if_pos rfl]; rfl
  · rw [g3 (s + 5) (by omega) (by omega), e _ (by omega) (by omega)]; exact h5
  · rw [g3 (s + 6) (by omega) (by omega), e _ (by omega) (by omega)]; exact h6
  · rw [g3 (s + 7) (by omega) (by omega), e _ (by omega) (by omega)]; exact h7
  · rw [g1, upd_at, if_pos rfl]
/-- another row than the one that is written stays -/
theorem mA_rest (hA : Inj ad) (hc : mA ad M s a A) {w : Nat} : mA ad (wI M (ad (s + 6)) a (zn (1 - w))) s a (anWalk w A) ∧ Oth ad M (wI M (ad (s + 6)) a (zn (1 - w))) s a ∧ Fr (Bk ad (s + 3) (s + 11)) M (wI M (ad (s + 6)) a (zn (1 - w))) := by
  obtain ⟨h3, h4, h5, h6, h7, h8, h9, h10⟩ := hc
  have e : ∀ k, k ≠ s + 6 → mI (wI M (ad (s + 6)) a (zn (1 - w))) (ad k) = mI M (ad k) := fun k hk => by rw [mI_wI, if_neg (ad_ne hA hk)]
  refine ⟨?_, Oth_w hA (by omega) (by omega), Fr_wI Fr_rf (Bk_in (by omega) (by omega))⟩
  unfold mA
  rw [e (s + 3) (by omega), e (s + 4) (by omega), e (s + 5) (by omega), e (s + 7) (by omega), e (s + 8) (by omega), e (s + 9) (by omega), e (s + 10) (by omega)]
  exact ⟨h3, h4, h5, by rw [mI_wI, if_pos rfl, upd_at, if_pos rfl]; rfl, h7, h8, h9, h10⟩
def anTurn (t : Nat) (A : aA) : aA := (an_r A, an_x A, an_y A, t, an_w A, an_t A, an_n A, an_h A)
theorem mA_turn (hA : Inj ad) (hc : mA ad M s a A) {t : Nat} : mA ad (wI M (ad (s + 5)) a (zn t)) s a (anTurn t A) ∧ Oth ad M (wI M (ad (s + 5)) a (zn t)) s a ∧ Fr (Bk ad (s + 3) (s + 11)) M (wI M (ad (s + 5)) a (zn t)) := by
  obtain ⟨h3, h4, h5, h6, h7, h8, h9, h10⟩ := hc
  have e : ∀ k, k ≠ s + 5 → mI (wI M (ad (s + 5)) a (zn t)) (ad k) = mI M (ad k) := fun k hk => by rw [mI_wI, if_neg (ad_ne hA hk)]
  refine ⟨?_, Oth_w hA (by omega) (by omega), Fr_wI Fr_rf (Bk_in (by omega) (by omega))⟩
  unfold mA
  rw [e (s + 3) (by omega), e (s + 4) (by omega), e (s + 6) (by omega), e (s + 7) (by omega), e (s + 8) (by omega), e (s + 9) (by omega), e (s + 10) (by omega)]
  exact ⟨h3, h4, by rw [mI_wI, if_pos rfl, upd_at, if_pos rfl]; rfl, h6, h7, h8, h9, h10⟩
theorem m_orders (hA : Inj ad) (hS : SSh G ad s) (hK : KSh G ad) (hL : LSh G ad 110) (hs : s + 12 ≤ 110) (hv : vY b Y) (hvP : vP (yd_n Y) P) (hc : mY ad M s Y) (hP : mP ad M P (yd_n Y) ru) {k : Nat} (hk : k < pg_o P) : p_cl (m_X11_orders G M (ad s) (zn k)) (fun M' r => (r = if (aCarry P k Y).2 then 1 else 0) ∧ mY ad M' s (aCarry P k Y).1 ∧ Fr (Bk ad s (s + 12)) M M') := by
  have h20 := hvP.2.2.2.1
  have hO := (hvP.2.2.2.2.2 k hk).1
  have hn := hv.2.1
  obtain ⟨c1, c2, c3⟩ := hP.2.2.2.2.1 k hk
  unfold vOrd at hO
  have hix : vp_in (zn k) 20 := zn_in (by omega) (by decide)
  have e1 : (zn (pg_k P k - 200) = 14) ↔ pg_k P k = 214 := by rw [show (14 : Int32) = zn 14 from rfl, zn_inj (by omega) (by decide)]; omega
  have e2 : (zn (pg_k P k - 200) = 16) ↔ pg_k P k = 216 := by rw [show (16 : Int32) = zn 16 from rfl, zn_inj (by omega) (by decide)]; omega
  have e3 : (zn (pg_k P k - 200) = 17) ↔ pg_k P k = 217 := by rw [show (17 : Int32) = zn 17 from rfl, zn_inj (by omega) (by decide)]; omega
  unfold m_X11_orders
  refine c_rf (s15 hS) (c_rf hK (c_rf (l14 hL) (c_ix (by rw [ln10 hL]; exact hix) (c_bd (c_rf (s15 hS) (c_rf hK (c_rf (l15 hL) (c_ix (by rw [ln11 hL]; exact hix) (c_bd (c_rf (s15 hS) (c_rf hK (c_rf (l13 hL) (c_ix (by rw [ln9 hL]; exact hix) ?_)))))))))))))
  rw [zn_nat (show k < 2147483648 by omega), c1, c2, c3]
  unfold aCarry
  refine c_if (fun g => ?_) (fun g => ?_)
  · have g2 := e1.mp g
    rw [if_pos g2]
    refine c_clm (mY_wash hA hS hv hc (r := pg_f P k) (t := pg_s P k) (by omega) (by omega)) ?_
    rintro M1 r ⟨rfl, h1, h2⟩
    have hle := nz_le (c := yd_c Y) (b := 64 * pg_f P k) (64 * (pg_s P k + 1 - pg_f P k))
    refine c_if (fun z => ?_) (fun z => ?_)
    · rw [show (0 : Int32) = zn 0 from rfl, zn_le (by omega) (by omega)] at z
      exact c_ck (Or.inl rfl) (c_some ⟨by rw [if_neg (by simpa using z)], h1, Fr_sub h2 (by omega) (by omega)⟩)
    · rw [show (0 : Int32) = zn 0 from rfl, zn_le (by omega) (by omega)] at z
      exact c_ck (Or.inr rfl) (c_some ⟨by rw [if_pos (by simpa using Nat.lt_of_not_le z)], h1, Fr_sub h2 (by omega) (by omega)⟩)
  · have g2 : ¬ pg_k P k = 214 := fun h => g (e1.mpr h)
    rw [if_neg g2]
    have hf : pg_f P k < yd_n Y := by omega
    have hci := hc.2.2 _ hf
    have hvi := hv.2.2 _ hf
    have hfx : vp_in (zn (pg_f P k)) 6 := zn_in (by omega) (by decide)
    have ef : (zn (pg_f P k)).toNatClampNeg = pg_f P k := zn_nat (by omega)
    refine c_rf (s15 hS) (c_rf hK (c_rf (l13 hL) (c_ix (by rw [ln9 hL]; exact hix) ?_)))
    rw [c1]
    refine c_if (fun z => ?_) (fun z => ?_)
    · have z2 := e2.mp z
      rw [if_pos z2]
      have hs4 : pg_s P k < 4 := by omega
      have e4 : (zn (an_s (yd_a Y (pg_f P k))) = zn (pg_s P k)) ↔ an_s (yd_a Y (pg_f P k)) = pg_s P k := zn_inj (by have := hvi.1.2.2.2.1; omega) (by omega)
      refine c_rf (s8 hS) (c_ix (by rw [sn5 hS]; exact hfx) ?_)
      rw [ef, hci.2.2.1]
      refine c_if (fun q => ?_) (fun q => ?_)
      · rw [if_pos (e4.mp q)]
        exact c_ck (Or.inl rfl) (c_some ⟨rfl, hc, Fr_rf⟩)
      · rw [if_neg (fun h => q (e4.mpr h))]
        refine c_rf (s8 hS) (c_ix (by rw [sn5 hS]; exact hfx) (c_wI (c_clm (mA_face hA hS (by omega) hci) ?_)))
        rintro M1 _ ⟨h1, h2, h3⟩
        exact c_ck (Or.inr rfl) (c_some ⟨rfl, mY_ant hA hc h2 h1 h3, Fr_sub h3 (by omega) (by omega)⟩)
    · have z2 : ¬ pg_k P k = 216 := fun h => z (e2.mpr h)
      rw [if_neg z2]
      refine c_rf (s15 hS) (c_rf hK (c_rf (l13 hL) (c_ix (by rw [ln9 hL]; exact hix) ?_)))
      rw [c1]
      have fin : ∀ w : Nat, w < 2 → p_cl (m_X11_orders_123 G (ad s) (zn k) M (zn (pg_f P k)) (zn (1 - w))) (fun M' r => (r = if decide (an_w (yd_a Y (pg_f P k)) ≠ w) then 1 else 0) ∧ mY ad M' s (aAnt (pg_f P k) (anWalk w (yd_a Y (pg_f P k))) Y) ∧ Fr (Bk ad s (s + 12)) M M') := by
        intro w hw
        have hw2 := hvi.1.2.2.2.2.1
        have e4 : (zn (1 - an_w (yd_a Y (pg_f P k))) = zn (1 - w)) ↔ an_w (yd_a Y (pg_f P k)) = w := by rw [zn_inj (by omega) (by omega)]; omega
        unfold m_X11_orders_123
        refine c_rf (s9 hS) (c_ix (by rw [sn6 hS]; exact hfx) ?_)
        rw [ef, hci.2.2.2.1]
        refine c_if (fun q => ?_) (fun q => ?_)
        · have q2 := e4.mp q
          refine c_ck (Or.inl rfl) (c_some ⟨by rw [if_neg (by simpa using q2)], ?_, Fr_rf⟩)
          refine mY_ant hA hc Oth_rf ?_ Fr_rf
          rw [← q2]
          exact hci
        · refine c_rf (s9 hS) (c_ix (by rw [sn6 hS]; exact hfx) (c_wI (c_ck (Or.inr rfl) (c_some ?_))))
          have h := mA_rest (w := w) hA hci
          exact ⟨by rw [if_pos (by simpa using fun h => q (e4.mpr h))], mY_ant hA hc h.2.1 h.1 h.2.2, Fr_sub h.2.2 (by omega) (by omega)⟩
      refine c_if (fun q => ?_) (fun q => ?_)
      · rw [if_neg (show ¬ pg_k P k = 218 by have := e3.mp q; omega)]
        exact fin 0 (by decide)
      · rw [if_pos (show pg_k P k = 218 by have : ¬ pg_k P k = 217 := fun h => q (e3.mpr h); omega)]
        exact fin 1 (by decide)
theorem mY_one (hA : Inj ad) (hc : mY ad M s Y) : mY ad (wI M (ad s) 3 (mI M (ad s) 3 + 1)) s (aOne Y) ∧ Fr (Bk ad s (s + 12)) M (wI M (ad s) 3 (mI M (ad s) 3 + 1)) := by
  have hF : Fr (Bk ad s (s + 1)) M (wI M (ad s) 3 (mI M (ad s) 3 + 1)) := Fr_wI Fr_rf (Bk_in (by omega) (by omega))
  refine ⟨⟨mYc_Fr hA hc.1 hF (by omega), ?_, mYa_Fr hA hc.2.2 hF (by omega)⟩, Fr_sub hF (by omega) (by omega)⟩
  obtain ⟨f0, f1, f2, f3⟩ := hc.2.1
  unfold mYf
  simp only [mI_wI, upd_at, reduceIte, Nat.reduceEqDiff, f3, zn_one]
  exact ⟨f0, f1, f2, rfl⟩
theorem ev01 (hv : vY b Y) (hvP : vP (yd_n Y) P) {k : Nat} (hk : k < pg_o P) : (evL Y (pg_T P k) []).headD 0 = 0 ∨ (evL Y (pg_T P k) []).headD 0 = 1 := by
  have h := evL_ok (Y := Y) (n := yd_n Y) (fun i hi => (hv.2.2 i hi).1.2.2.2.2.1) (hvP.2.2.2.2.2 k hk).2 (s := []) trivial
  obtain ⟨x, t, e, q1, q2⟩ := sOk1 h
  rw [e]
  exact q1 rfl
theorem enc_len {o : aO} : 1 ≤ (enc o).length := by unfold enc; split <;> exact Nat.succ_pos _
theorem encL_len : ∀ L : List aO, L.length ≤ (encL L).length := by
  intro L
  induction L with
  | nil => exact Nat.le_refl _
  | cons o L ih =>
    show L.length + 1 ≤ (enc o ++ encL L).length
    rw [List.length_append]
    have := enc_len (o := o)
    omega
theorem m_carryOut (hA : Inj ad) (hS : SSh G ad s) (hK : KSh G ad) (hL : LSh G ad 110) (hs : s + 12 ≤ 110) (hv : vY b Y) (hb : b < 1000000000) (hvP : vP (yd_n Y) P) (hc : mY ad M s Y) (hN : mN ad M (yd_n Y)) {k q : Nat} (hk : k < pg_o P) (hq : q + (encL (pg_T P k)).length ≤ 800) (hcode : ∀ j, j < (encL (pg_T P k)).length → mI M (ad (110 + 14)) (q + j) = (encL (pg_T P k)).getD j 0) : p_cl (m_X11_carryOut G M (ad s) (zn q) (zn (q + (encL (pg_T P k)).length))) (fun M' r => r = (evL Y (pg_T P k) []).headD 0 ∧ Fr (Bk ad (s + 11) (s + 12)) M M') := by
  have hl := encL_len (pg_T P k)
  unfold m_X11_carryOut
  rw [show (-1 : Int32) = zn ([] : List Int32).length - 1 from by decide]
  exact m_code_loop hA hS hK hL hs hv hb (zn q) (pg_T P k) q fu M [] [] hq (by unfold fu; omega) hcode hc hN (fun j hj => by cases hj) (hvP.2.2.2.2.2 k hk).2 trivial (by decide)
end StepM
