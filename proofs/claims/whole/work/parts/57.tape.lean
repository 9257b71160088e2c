/-! the tape: feed, trim -/
theorem and255 (x : Int32) : ∃ n, n < 256 ∧ x &&& 255 = zn n := by
  refine ⟨(x.toBitVec &&& 255#32).toNat, ?_, ?_⟩
  · rw [BitVec.toNat_and]
    exact Nat.lt_of_le_of_lt Nat.and_le_right (by decide)
  · rw [← Int32.toBitVec_inj, Int32.toBitVec_and]
    show x.toBitVec &&& 255#32 = BitVec.ofNat 32 (x.toBitVec &&& 255#32).toNat
    rw [BitVec.ofNat_toNat, BitVec.setWidth_eq]
/-- byte i of four -/
def byS (i : Nat) : Int32 := zn (24 - 8 * i)
def byI (v : Int32) (i : Nat) : Int32 := (v.toUInt32 >>> ((byS i).toUInt32 &&& Int32.toUInt32 31)).toInt32 &&& (255 : Int32)
def byN (v : Int32) (i : Nat) : Nat := (byI v i).toNatClampNeg
theorem byN_ok (v : Int32) (i : Nat) : byN v i < 256 ∧ byI v i = zn (byN v i) := by
  obtain ⟨n, h1, h2⟩ := and255 ((v.toUInt32 >>> ((byS i).toUInt32 &&& Int32.toUInt32 31)).toInt32)
  unfold byN
  rw [show byI v i = zn n from h2, zn_nat (by omega)]
  exact ⟨h1, rfl⟩
theorem bit255 {j : Nat} (h : 8 ≤ j) : (255#32).getLsbD j = false := by
  rw [BitVec.getLsbD_ofNat]
  have : (255 : Nat).testBit j = false := Nat.testBit_lt_two_pow (Nat.lt_of_lt_of_le (by decide : 255 < 2 ^ 8) (Nat.pow_le_pow_right (by decide) h))
  rw [this, Bool.and_false]
theorem sh_same {x : BitVec 32} {s : Nat} (hs : s ≤ 24) : x.sshiftRight s &&& 255#32 = (x >>> s) &&& 255#32 := by
  refine BitVec.eq_of_getLsbD_eq (fun j hj => ?_)
  rw [BitVec.getLsbD_and, BitVec.getLsbD_and]
  by_cases h : 8 ≤ j
  · rw [bit255 h, Bool.and_false, Bool.and_false]
  · rw [BitVec.getLsbD_sshiftRight, BitVec.getLsbD_ushiftRight, if_pos (by omega), decide_eq_false (by omega)]
    rfl
theorem by_same (v : Int32) : ∀ i : Nat, i < 4 → (v >>> (zn (24 - 8 * i) &&& 31)) &&& 255 = byI v i := by
  intro i hi
  have key : ∀ s : Nat, s ≤ 24 → v.toBitVec.sshiftRight s &&& 255#32 = (v.toBitVec >>> s) &&& 255#32 := fun s hs => sh_same hs
  rw [← Int32.toBitVec_inj, Int32.toBitVec_and, Int32.toBitVec_shiftRight, BitVec.sshiftRight_eq']
  match i, hi with
  | 0, _ => exact key 24 (by decide)
  | 1, _ => exact key 16 (by decide)
  | 2, _ => exact key 8 (by decide)
  | 3, _ => exact key 0 (by decide)
/-- the tape with k bytes more -/
def fdA (a b c d e : Int32) (i : Nat) : Int32 := if i = 0 then a else if i = 1 then b else if i = 2 then c else if i = 3 then d else e
def fdT (T : Nat → Nat) (tl : Nat) (g : Nat → Int32) : Nat → Nat := fun k => if k < tl then T k else byN (g ((k - tl) / 4)) ((k - tl) % 4)
theorem fdT_lt {T : Nat → Nat} {tl : Nat} {g : Nat → Int32} (h : ∀ k, k < tl → T k < 256) : ∀ k, fdT T tl g k < 256 := by
  intro k
  unfold fdT
  split
  · next q => exact h k q
  · exact (byN_ok _ _).1
section Tape
variable {G : gS} {ad : Nat → Nat} {M : mS} {Y : aY} {P : aP} {T : Nat → Nat} {tl b : Nat} {ea : Int32} {post : gS → mS → Prop}
/-- the class's tape -/
def cT (ad : Nat → Nat) (M : mS) (T : Nat → Nat) (tl : Nat) : Prop := mI M (ad 1) 1 = zn tl ∧ ∀ k, k < tl → mI M (ad 2) k = zn (T k)
theorem CA_T (hc : CA ad M Y P T tl ea) (hn : yd_n Y ≤ 6) {M' : mS} {T' : Nat → Nat} {tl' : Nat} (h : cT ad M' T' tl') (hI : ∀ k, k = 0 ∨ (3 ≤ k ∧ k < 12) ∨ (21 ≤ k ∧ k < 38) → mI M' (ad k) = mI M (ad k)) (hJ : mJ M' (ad 59) = mJ M (ad 59)) : CA ad M' Y P T' tl' ea := by
  obtain ⟨h1, h2, h3, h4, h5, h6⟩ := hc
  refine ⟨cY_keep hn h1 (fun k k1 k2 => hI k (by omega)), cP_keep h2 (fun k k1 k2 => hI k (by omega)), h.1, h.2, by rw [hJ]; exact h5, by rw [hI 0 (by decide)]; exact h6⟩
theorem c_app_loop (hA : Inj ad) (hS : Sh G ad) {v : Int32} {tl0 : Nat} (h4 : tl0 + 4 ≤ 2000) {g : Nat → Nat} (hg : ∀ i, i < 4 → g (tl0 + i) = byN v i) : ∀ (d i f : Nat) (M : mS), i + d = 4 → d < f → cT ad M g (tl0 + i) → p_cl (m_X6_append_12 G (ad 1) v f M (if i = 4 then -8 else byS i)) (fun M' _ => cT ad M' g (tl0 + 4) ∧ Fr (Bk ad 1 3) M M') := by
  intro d
  induction d with
  | zero =>
    intro i f M hi hf hc
    obtain ⟨f, rfl⟩ : ∃ g, f = g + 1 := ⟨f - 1, by omega⟩
    have hi : i = 4 := by omega
    subst hi
    rw [m_X6_append_12]
    exact c_t (by decide) (c_some ⟨hc, Fr_rf⟩)
  | succ d ih =>
    intro i f M hi hf hc
    obtain ⟨f, rfl⟩ : ∃ g, f = g + 1 := ⟨f - 1, by omega⟩
    have n12 : ad 1 ≠ ad 2 := ad_ne hA (by decide)
    have n21 : ad 2 ≠ ad 1 := ad_ne hA (by decide)
    rw [m_X6_append_12, if_neg (show ¬ i = 4 by omega)]
    refine c_f (by unfold byS; exact zn_nn (by omega)) (c_rf (sh_t0 hS) ?_)
    rw [hc.1, sh_tn hS]
    refine c_ix (zn_in (by omega) (by decide)) (c_wI (c_wI (c_bd ?_)))
    rw [zn_nat (by omega)]
    have e8 : byS i + (-8) = if i + 1 = 4 then -8 else byS (i + 1) := by
      rcases (show i = 0 ∨ i = 1 ∨ i = 2 ∨ i = 3 by omega) with rfl | rfl | rfl | rfl <;> decide
    rw [e8, show (v.toUInt32 >>> ((byS i).toUInt32 &&& Int32.toUInt32 31)).toInt32 &&& (255 : Int32) = byI v i from rfl, (byN_ok v i).2]
    have hF : ∀ w : Int32, Fr (Bk ad 1 3) M (wI (wI M (ad 2) (tl0 + i) (zn (byN v i))) (ad 1) 1 w) := fun w => Fr_wI (Fr_wI Fr_rf (Bk_in (by omega) (by omega))) (Bk_in (by omega) (by omega))
    refine c_mono (ih (i + 1) f _ (by omega) (by omega) ⟨?_, fun k hk => ?_⟩) ?_
    · rw [mI_wI, if_pos rfl, upd_at, if_pos rfl, mI_wI, if_neg n12, hc.1, zn_one]
      rfl
    · rw [mI_wI, if_neg n21, mI_wI, if_pos rfl, upd_at]
      by_cases h : k = tl0 + i
      · rw [if_pos h, h, hg i (by omega)]
      · rw [if_neg h]
        exact hc.2 k (by omega)
    · rintro M' _ ⟨q1, q2⟩
      exact ⟨q1, Fr_tr (hF _) q2⟩
theorem c_append (hA : Inj ad) (hS : Sh G ad) {v : Int32} {tl0 : Nat} (h4 : tl0 + 4 ≤ 2000) {g : Nat → Nat} (hg : ∀ i, i < 4 → g (tl0 + i) = byN v i) (hc : cT ad M g tl0) : p_cl (m_X6_append G M (ad 1) v) (fun M' _ => cT ad M' g (tl0 + 4) ∧ Fr (Bk ad 1 3) M M') := by
  unfold m_X6_append m_X6_hasRoom
  rw [hc.1, show zn tl0 + 4 = zn (tl0 + 4) from zn_add tl0 4]
  refine c_cl (c_f (by rw [show (2000 : Int32) = zn 2000 from rfl, zn_lt (by omega) (by omega)]; omega) (c_ck (Or.inr rfl) (c_some (c_f (by decide) ?_))))
  exact c_app_loop hA hS h4 hg 4 0 fu M (by omega) (by unfold fu; omega) hc
theorem c_feed (hA : Inj ad) (hS : Sh G ad) (hn : yd_n Y ≤ 6) (hc : CA ad M Y P T tl ea) (h20 : tl + 20 ≤ 2000) {c1 c2 c3 c4 c5 : Int32} : p_cl (t_X9_feed G M (ad 0) c1 c2 c3 c4 c5) (fun M' r => r = .inl (zn (tl + 20)) ∧ CA ad M' Y P (fdT T tl (fdA c1 c2 c3 c4 c5)) (tl + 20) ea ∧ Fr (Bk ad 0 70) M M') := by
  have hT0 : cT ad M (fdT T tl (fdA c1 c2 c3 c4 c5)) tl := ⟨hc.2.2.1, fun k hk => by unfold fdT; rw [if_pos hk]; exact hc.2.2.2.1 k hk⟩
  have hb : ∀ (n i : Nat), i < 4 → fdT T tl (fdA c1 c2 c3 c4 c5) (tl + 4 * n + i) = byN (fdA c1 c2 c3 c4 c5 n) i := fun n i hi => by
    unfold fdT
    rw [if_neg (by omega), show (tl + 4 * n + i - tl) / 4 = n by omega, show (tl + 4 * n + i - tl) % 4 = i by omega]
  unfold t_X9_feed
  refine c_rf (sh_x0 hS) ?_
  unfold m_X6_hasRoom
  rw [hc.2.2.1, show zn tl + 20 = zn (tl + 20) from zn_add tl 20]
  refine c_cl (c_f (by rw [show (2000 : Int32) = zn 2000 from rfl, zn_lt (by omega) (by omega)]; omega) (c_ck (Or.inr rfl) (c_some (c_f (by decide) (c_rf (sh_x0 hS) ?_)))))
  refine c_clm (c_append (tl0 := tl + 4 * 0) hA hS (by omega) (fun i hi => hb 0 i hi) hT0) ?_
  rintro M1 _ ⟨g1, f1⟩
  refine c_rf (sh_x0 hS) (c_clm (c_append (tl0 := tl + 4 * 1) hA hS (by omega) (fun i hi => hb 1 i hi) g1) ?_)
  rintro M2 _ ⟨g2, f2⟩
  refine c_rf (sh_x0 hS) (c_clm (c_append (tl0 := tl + 4 * 2) hA hS (by omega) (fun i hi => hb 2 i hi) g2) ?_)
  rintro M3 _ ⟨g3, f3⟩
  refine c_rf (sh_x0 hS) (c_clm (c_append (tl0 := tl + 4 * 3) hA hS (by omega) (fun i hi => hb 3 i hi) g3) ?_)
  rintro M4 _ ⟨g4, f4⟩
  refine c_rf (sh_x0 hS) (c_clm (c_append (tl0 := tl + 4 * 4) hA hS (by omega) (fun i hi => hb 4 i hi) g4) ?_)
  rintro M5 _ ⟨g5, f5⟩
  have hF := Fr_tr f1 (Fr_tr f2 (Fr_tr f3 (Fr_tr f4 f5)))
  exact c_rf (sh_x0 hS) (c_some ⟨congrArg Sum.inl g5.1, CA_T hc hn g5 (fun k hk => Fr_I hA hF (by omega)) (Fr_J hA hF (by omega)), Fr_sub hF (by omega) (by omega)⟩)
theorem m_feed_loop (hS : Sh G ad) (hA : Inj ad) {c1 c2 c3 c4 c5 : Int32} {q : Nat} (hq : ∀ k, usd k → ad k ≠ q) (hqn : gN G q = 5) (h20 : tl + 20 ≤ 2000) {g : Nat → Nat} (hg : ∀ k, k < 20 → g (tl + k) = byN (fdA c1 c2 c3 c4 c5 (k / 4)) (k % 4)) : ∀ (d k f : Nat) (M : mS), k + d = 20 → d < f → mI M (ad 70) 2 = zn tl → (∀ i, i < 5 → mI M q i = fdA c1 c2 c3 c4 c5 i) → (∀ j, j < tl + k → mI M (ad 71) j = zn (g j)) → p_cl (m_X12_feed_51 G (ad 70) c1 c2 c3 c4 c5 f M q (zn k)) (fun M' r => r = zn (tl + 20) ∧ mI M' (ad 70) 2 = zn (tl + 20) ∧ (∀ j, j < tl + 20 → mI M' (ad 71) j = zn (g j)) ∧ (∀ j, j ≠ 2 → mI M' (ad 70) j = mI M (ad 70) j) ∧ Fr (Bk ad 70 72) M M') := by
  have n71 : ad 71 ≠ ad 70 := ad_ne hA (by decide)
  have n17 : ad 70 ≠ ad 71 := ad_ne hA (by decide)
  intro d
  induction d with
  | zero =>
    intro k f M hk hf h2 hqv hT
    obtain ⟨f, rfl⟩ : ∃ g, f = g + 1 := ⟨f - 1, by omega⟩
    have hk : k = 20 := by omega
    subst hk
    rw [m_X12_feed_51]
    refine c_t (by decide) (c_wI (c_some ?_))
    have e : mI (wI M (ad 70) 2 (mI M (ad 70) 2 + 20)) (ad 70) 2 = zn (tl + 20) := by rw [mI_wI, if_pos rfl, upd_at, if_pos rfl, h2]; exact zn_add tl 20
    refine ⟨e, e, fun j hj => ?_, fun j hj => ?_, Fr_wI Fr_rf (Bk_in (by omega) (by omega))⟩
    · rw [mI_wI, if_neg n71]; exact hT j hj
    · rw [mI_wI, if_pos rfl, upd_at, if_neg hj]
  | succ d ih =>
    intro k f M hk hf h2 hqv hT
    obtain ⟨f, rfl⟩ : ∃ g, f = g + 1 := ⟨f - 1, by omega⟩
    have hk4 : k / 4 < 5 := by omega
    have e4 : (zn k) / 4 = zn (k / 4) := zn_div (a := k) (b := 4) (by omega) (by decide)
    have em : zn k - zn k / 4 * 4 = zn (k % 4) := zn_mod (a := k) (b := 4) (by omega) (by decide)
    have e8 : (24 : Int32) - 8 * zn (k % 4) = zn (24 - 8 * (k % 4)) := by rw [show (8 : Int32) * zn (k % 4) = zn (8 * (k % 4)) from zn_mul 8 _]; exact zn_sub (a := 24) (by omega)
    rw [m_X12_feed_51]
    refine c_f (by rw [show (20 : Int32) = zn 20 from rfl, zn_le (by omega) (by omega)]; omega) (c_rf (sh_m1 hS) (c_ck (by decide) ?_))
    rw [hqn, em, e4, e8, h2, zn_add, sh_mn1 hS]
    refine c_ix (zn_in hk4 (by decide)) (c_ck (by decide) (c_ix (zn_in (by omega) (by decide)) (c_wI (c_bd ?_))))
    rw [zn_nat (show k / 4 < 2147483648 by omega), zn_nat (show tl + k < 2147483648 by omega), hqv _ hk4, by_same _ _ (Nat.mod_lt _ (by decide)), (byN_ok _ _).2, zn_one]
    have hq71 : q ≠ ad 71 := fun e => hq 71 (by decide) e.symm
    have hF : Fr (Bk ad 70 72) M (wI M (ad 71) (tl + k) (zn (byN (fdA c1 c2 c3 c4 c5 (k / 4)) (k % 4)))) := Fr_wI Fr_rf (Bk_in (by omega) (by omega))
    refine c_mono (ih (k + 1) f _ (by omega) (by omega) ?_ (fun i hi => ?_) (fun j hj => ?_)) ?_
    · rw [mI_wI, if_neg n17]; exact h2
    · rw [mI_wI, if_neg hq71]; exact hqv i hi
    · rw [mI_wI, if_pos rfl, upd_at]
      by_cases h : j = tl + k
      · rw [if_pos h, h, hg k (by omega)]
      · rw [if_neg h]; exact hT j (by omega)
    · rintro M' r ⟨q1, q2, q3, q4, q5⟩
      refine ⟨q1, q2, q3, fun j hj => ?_, Fr_tr hF q5⟩
      rw [q4 j hj, mI_wI, if_neg n17]
/-- the reference's tape is another one -/
theorem MA_T (hm : MA ad M Y P T tl ea) {M' : mS} {T' : Nat → Nat} {tl' : Nat} (h2 : mI M' (ad 70) 2 = zn tl') (hT : ∀ k, k < tl' → mI M' (ad 71) k = zn (T' k)) (h3 : mI M' (ad 70) 3 = mI M (ad 70) 3) (hI : ∀ k, (80 ≤ k ∧ k < 92) ∨ (110 ≤ k ∧ k < 126) → mI M' (ad k) = mI M (ad k)) : MA ad M' Y P T' tl' ea := by
  obtain ⟨g1, g2, g3, g4, g5⟩ := hm
  refine ⟨mY_keep g1 (fun k k1 k2 => hI k (by omega)), ?_, h2, hT, by rw [h3]; exact g5⟩
  unfold mP
  rw [hI 110 (by decide), hI (110 + 1) (by decide), hI (110 + 2) (by decide), hI (110 + 4) (by decide), hI (110 + 9) (by decide), hI (110 + 10) (by decide), hI (110 + 11) (by decide), hI (110 + 12) (by decide), hI (110 + 13) (by decide), hI (110 + 14) (by decide)]
  exact g2
theorem ok_0 (hA : Inj ad) (hS : Sh G ad) (hU : Us G ad) (hv : vY b Y) (htl : tl ≤ 2000) (hT : ∀ k, k < tl → T k < 256) (hc : CA ad M Y P T tl ea) (hm : MA ad M Y P T tl ea) (H : ∀ G' M' T' tl', Sh G' ad → Us G' ad → tl' ≤ 2000 → (∀ k, k < tl' → T' k < 256) → CA ad M' Y P T' tl' ea → MA ad M' Y P T' tl' ea → post G' M') {c1 c2 c3 c4 c5 : Int32} : fc_0 G M (ad 0) (ad 70) (ad 105) c1 c2 c3 c4 c5 post := by
  have hn := hv.2.1
  unfold fc_0 m_L_feed
  by_cases h : tl + 20 ≤ 2000
  · refine c_mono (tr_val (v := zn (tl + 20)) hA hS hn hm (c_feed hA hS hn hc h)) ?_
    rintro M1 r2 ⟨rfl, hJ, hc1, hm1⟩
    have e := m_tell (v := 0) hA hm1
    unfold n_X12_feed
    show p_if ((mI (wI M1 (ad 70) 0 0) (ad 70) 2) ≤ (1980 : Int32)) _ _
    rw [e.2.2.1.2.2.1]
    refine ⟨fun _ q hq => ?_, fun q => absurd ((zn_le (b := 1980) (by omega) (by decide)).mpr (by omega)) q⟩
    obtain ⟨hS2, hU2⟩ := Sh_nw (ci := 12) (N := 5) hS hU hq
    have hne : ∀ k, usd k → ad k ≠ q := fun k hk => Us_ne hU hq hk
    have gn : gN (gNw G q 12 5) q = 5 := nwn
    rw [gn]
    refine ⟨by unfold vp_in; decide, by unfold vp_in; decide, by unfold vp_in; decide, by unfold vp_in; decide, by unfold vp_in; decide, ?_⟩
    have kp : ∀ (M1 : mS) (j : Nat) (v : Int32) (k : Nat), usd k → mI (wI M1 q j v) (ad k) = mI M1 (ad k) := fun M1 j v k hk => by rw [mI_wI, if_neg (hne k hk)]
    have hI : ∀ k, usd k → mI (wI (wI (wI (wI (wI (wZ (wI M1 (ad 70) 0 0) q) q 0 c1) q 1 c2) q 2 c3) q 3 c4) q 4 c5) (ad k) = mI (wI M1 (ad 70) 0 0) (ad k) := fun k hk => by
      rw [kp _ _ _ k hk, kp _ _ _ k hk, kp _ _ _ k hk, kp _ _ _ k hk, kp _ _ _ k hk, mI_wZ, if_neg (hne k hk)]
    have hJ2 : ∀ k, usd k → mJ (wI (wI (wI (wI (wI (wZ (wI M1 (ad 70) 0 0) q) q 0 c1) q 1 c2) q 2 c3) q 3 c4) q 4 c5) (ad k) = mJ (wI M1 (ad 70) 0 0) (ad k) := fun k hk => by
      show mJ (wZ (wI M1 (ad 70) 0 0) q) (ad k) = _
      rw [mJ_wZ, if_neg (hne k hk)]
    have hqv : ∀ i, i < 5 → mI (wI (wI (wI (wI (wI (wZ (wI M1 (ad 70) 0 0) q) q 0 c1) q 1 c2) q 2 c3) q 3 c4) q 4 c5) q i = fdA c1 c2 c3 c4 c5 i := by
      intro i hi
      simp only [mI_wI, upd_at, reduceIte]
      rcases (show i = 0 ∨ i = 1 ∨ i = 2 ∨ i = 3 ∨ i = 4 by omega) with rfl | rfl | rfl | rfl | rfl <;> rfl
    show p_cl (m_X12_feed_51 (gNw G q 12 5) (ad 70) c1 c2 c3 c4 c5 fu (wI (wI (wI (wI (wI (wZ (wI M1 (ad 70) 0 0) q) q 0 c1) q 1 c2) q 2 c3) q 3 c4) q 4 c5) q (zn 0)) _
    generalize (wI (wI (wI (wI (wI (wZ (wI M1 (ad 70) 0 0) q) q 0 c1) q 1 c2) q 2 c3) q 3 c4) q 4 c5) = M3 at hI hJ2 hqv ⊢
    have hm3 := MA_U e.2.2.1 hI
    refine c_mono (m_feed_loop (tl := tl) hS2 hA hne gn h (g := fdT T tl (fdA c1 c2 c3 c4 c5)) (fun k hk => ?_) 20 0 fu M3 (by omega) (by unfold fu; omega) hm3.2.2.1 hqv (fun j hj => ?_)) ?_
    · unfold fdT
      rw [if_neg (by omega), Nat.add_sub_cancel_left]
    · unfold fdT
      rw [if_pos (by omega)]
      exact hm3.2.2.2.1 j (by omega)
    · rintro M4 r ⟨rfl, q2, q3, q4, q5⟩
      have hc3 := CA_U hn (CA_Fr hA hn hc1 e.2.2.2 (by omega)) hI hJ2
      have hm4 : MA ad M4 Y P (fdT T tl (fdA c1 c2 c3 c4 c5)) (tl + 20) ea := MA_T hm3 q2 q3 (q4 3 (by decide)) (fun k hk => Fr_I hA q5 (by omega))
      refine end_val hS2 ?_ ?_ (H _ M4 _ _ hS2 hU2 h (fun k _ => fdT_lt hT k) (CA_Fr hA hn hc3 q5 (by omega)) hm4)
      · rw [Fr_J hA q5 (by omega), hJ2 105 (by decide)]
        exact hJ
      · rw [q4 0 (by decide), hI 70 (by decide)]
        exact e.1
  · have hx : t_X9_feed G M (ad 0) c1 c2 c3 c4 c5 = some (M, .inr "java/lang/IllegalStateException") := by
      refine cl_eq ?_
      unfold t_X9_feed
      refine c_rf (sh_x0 hS) ?_
      unfold m_X6_hasRoom
      rw [hc.2.2.1, show zn tl + 20 = zn (tl + 20) from zn_add tl 20]
      exact c_cl (c_t (by rw [show (2000 : Int32) = zn 2000 from rfl, zn_lt (by omega) (by omega)]; omega) (c_ck (Or.inl rfl) (c_some (c_t rfl (c_some ⟨rfl, rfl⟩)))))
    rw [hx]
    refine c_some ?_
    have e := m_tell (v := 0) hA hm
    unfold n_X12_feed
    show p_if ((mI (wI M (ad 70) 0 0) (ad 70) 2) ≤ (1980 : Int32)) _ _
    rw [e.2.2.1.2.2.1]
    refine ⟨fun q => absurd ((zn_le (b := 1980) (by omega) (by decide)).mp q) (by omega), fun _ => c_some (c_some ?_)⟩
    have hF : Fr (Bk ad 70 71) M (wI (wI M (ad 70) 0 0) (ad 70) 0 1) := Fr_wI (Fr_wI Fr_rf (Bk_in (by omega) (by omega))) (Bk_in (by omega) (by omega))
    exact ⟨fun _ => ⟨fun q => absurd q (by decide), fun _ => H G _ T tl hS hU htl hT (CA_Fr hA hn hc hF (by omega)) (MA_th hA (MA_th hA hm))⟩, fun q => q (by rw [mI_wI, if_pos rfl, upd_at, if_pos rfl])⟩
theorem ok_1 (hA : Inj ad) (hS : Sh G ad) (hv : vY b Y) (htl : tl ≤ 2000) (hT : ∀ k, k < tl → T k < 256) (hc : CA ad M Y P T tl ea) (hm : MA ad M Y P T tl ea) (H : ∀ M' tl', tl' ≤ 2000 → (∀ k, k < tl' → T k < 256) → CA ad M' Y P T tl' ea → MA ad M' Y P T tl' ea → post G M') {c1 : Int32} : fc_1 G M (ad 0) (ad 70) (ad 105) c1 post := by
  have hn := hv.2.1
  have n10 : ad 1 ≠ ad 2 := ad_ne hA (by decide)
  unfold fc_1 m_L_trim
  by_cases h : vp_in c1 (tl + 1)
  · obtain ⟨t, k1, k2, rfl⟩ := in_ex h
    have hx : p_cl (t_X9_trim G M (ad 0) (zn t)) (fun M1 r => r = .inl (zn t) ∧ CA ad M1 Y P T t ea ∧ Fr (Bk ad 0 70) M M1) := by
      unfold t_X9_trim
      refine c_f (zn_nn k2) (c_rf (sh_x0 hS) ?_)
      rw [hc.2.2.1]
      have hF : Fr (Bk ad 1 3) M (wI M (ad 1) 1 (zn t)) := Fr_wI Fr_rf (Bk_in (by omega) (by omega))
      refine c_t ((zn_le (by omega) (by omega)).mpr (by omega)) (c_rf (sh_x0 hS) (c_wI (c_some ⟨rfl, ?_, Fr_sub hF (by omega) (by omega)⟩)))
      refine CA_T hc hn ⟨by rw [mI_wI, if_pos rfl, upd_at, if_pos rfl], fun k hk => ?_⟩ (fun k hk => Fr_I hA hF (by omega)) (Fr_J hA hF (by omega))
      rw [mI_wI, if_neg (Ne.symm n10)]
      exact hc.2.2.2.1 k (by omega)
    refine c_mono (tr_val hA hS hn hm hx) ?_
    rintro M1 r2 ⟨rfl, hJ, hc1, hm1⟩
    have e := m_tell (v := 0) hA hm1
    unfold m_X12_trim
    refine c_wI ?_
    rw [e.2.2.1.2.2.1, show zn tl = zn (tl + 1) - 1 from zn_top.symm, m_isInN_t (by omega) h]
    have n71 : ad 71 ≠ ad 70 := ad_ne hA (by decide)
    have hF : Fr (Bk ad 70 71) (wI M1 (ad 70) 0 0) (wI (wI M1 (ad 70) 0 0) (ad 70) 2 (zn t)) := Fr_wI Fr_rf (Bk_in (by omega) (by omega))
    refine c_cl (c_some (c_f (by decide) (c_wI (c_some ?_))))
    refine end_val hS ?_ ?_ (H _ t (by omega) (fun k hk => hT k (by omega)) (CA_Fr hA hn (CA_Fr hA hn hc1 e.2.2.2 (by omega)) hF (by omega)) ?_)
    · rw [Fr_J hA hF (by omega)]
      exact hJ
    · rw [mI_wI, if_pos rfl, upd_at, if_neg (by decide)]
      exact e.1
    · refine MA_T e.2.2.1 (by rw [mI_wI, if_pos rfl, upd_at, if_pos rfl]) (fun k hk => ?_) (by rw [mI_wI, if_pos rfl, upd_at, if_neg (by decide)]) (fun k hk => Fr_I hA hF (by omega))
      rw [mI_wI, if_neg n71]
      exact e.2.2.1.2.2.2.1 k (by omega)
  · refine fin_exc (E := "java/lang/IllegalArgumentException") (code := 1) hA hS hn hm hc ?_ (fun _ => rfl) (by decide) ?_ (fun M' => H M' tl htl hT)
    · unfold t_X9_trim t_X9_trim_15
      refine c_if (fun q => c_some ⟨rfl, rfl⟩) (fun q => c_rf (sh_x0 hS) ?_)
      rw [hc.2.2.1]
      obtain ⟨a, ha, rfl⟩ := I32_nat q
      have h2 := (in_not (n := tl + 1) (by omega) h).resolve_left q
      rw [zn_le (by omega) ha] at h2
      exact c_f (by rw [zn_le ha (by omega)]; omega) (c_some ⟨rfl, rfl⟩)
    · have e := m_tell (v := 0) hA hm
      unfold m_X12_trim
      refine c_wI ?_
      rw [e.2.2.1.2.2.1, show zn tl = zn (tl + 1) - 1 from zn_top.symm, m_isInN_f (by omega) h]
      exact c_cl (c_some (c_t rfl (c_cl (c_some (c_some rfl)))))
end Tape
