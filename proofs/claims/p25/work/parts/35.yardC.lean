/-! the class's yards -/
theorem zn_div {a b : Nat} (ha : a < 2147483648) (hb : b < 2147483648) : zn a / zn b = zn (a / b) := by
  rw [← Int32.toInt_inj, Int32.toInt_div, zn_toInt ha, zn_toInt hb, zn_toInt (Nat.lt_of_le_of_lt (Nat.div_le_self a b) ha)]
  rw [← Int.ofNat_tdiv]
  have : a / b ≤ a := Nat.div_le_self a b
  generalize a / b = q at *
  exact Int.bmod_eq_of_le (by omega) (by omega)
def YSh (G : gS) (ad : Nat → Nat) (y : Nat) : Prop := gP G (ad y) 0 = some (ad (y + 1)) ∧ gP G (ad y) 1 = some (ad (y + 2)) ∧ gP G (ad y) 2 = some (ad (y + 3)) ∧ gP G (ad y) 3 = some (ad (y + 4)) ∧ (∀ i, i < 6 → gP G (ad (y + 4)) i = some (ad (y + 5 + 2 * i))) ∧ gN G (ad (y + 1)) = 4096 ∧ gN G (ad (y + 2)) = 64 ∧ gN G (ad (y + 3)) = 6 ∧ gN G (ad (y + 4)) = 6 ∧ ∀ i, i < 6 → ASh G ad (y + 5 + 2 * i)
/-- the stones and their counts -/
def cYc (ad : Nat → Nat) (M : mS) (y : Nat) (c : Nat → Nat) : Prop := (∀ p, p < 4096 → mI M (ad (y + 1)) p = zn (c p)) ∧ (∀ r, r < 64 → mI M (ad (y + 2)) r = zn (nz c (64 * r) 64)) ∧ ∀ v, v < 6 → mI M (ad (y + 3)) v = zn (cn c v 4096)
def cYf (ad : Nat → Nat) (M : mS) (y : Nat) (Y : aY) : Prop := mI M (ad y) 4 = zn (yd_n Y) ∧ mI M (ad y) 5 = zn (yd_t Y) ∧ mI M (ad y) 6 = zn (yd_m Y) ∧ mI M (ad y) 7 = zn (yd_w Y) ∧ mI M (ad y) 8 = zn (yd_k Y)
def cYa (ad : Nat → Nat) (M : mS) (y : Nat) (n : Nat) (a : Nat → aA) : Prop := ∀ i, i < n → cA ad M (y + 5 + 2 * i) (a i)
def cY (ad : Nat → Nat) (M : mS) (y : Nat) (Y : aY) : Prop := cYc ad M y (yd_c Y) ∧ cYf ad M y Y ∧ cYa ad M y (yd_n Y) (yd_a Y)
section YardSpecs
variable {G : gS} {ad : Nat → Nat} {M : mS} {y : Nat} {Y : aY} {c : Nat → Nat}
theorem cYc_Fr (hA : Inj ad) {lo hi : Nat} {M M' : mS} {y : Nat} {c : Nat → Nat} (h : cYc ad M y c) (hF : Fr (Bk ad lo hi) M M') (hd : y + 3 < lo ∨ hi ≤ y + 1) : cYc ad M' y c := by
  unfold cYc
  rw [Fr_I hA hF (k := y + 1) (by omega), Fr_I hA hF (k := y + 2) (by omega), Fr_I hA hF (k := y + 3) (by omega)]
  exact h
theorem cYf_Fr (hA : Inj ad) {lo hi : Nat} {M M' : mS} {y : Nat} {Y : aY} (h : cYf ad M y Y) (hF : Fr (Bk ad lo hi) M M') (hd : y < lo ∨ hi ≤ y) : cYf ad M' y Y := by
  unfold cYf
  rw [Fr_I hA hF (k := y) (by omega)]
  exact h
theorem cYa_Fr (hA : Inj ad) {lo hi : Nat} {M M' : mS} {y n : Nat} {a : Nat → aA} (h : cYa ad M y n a) (hF : Fr (Bk ad lo hi) M M') (hd : y + 5 + 2 * n ≤ lo ∨ hi ≤ y + 5) : cYa ad M' y n a := fun i hi => cA_Fr hA (h i hi) hF (by omega)
theorem cY_Fr (hA : Inj ad) {lo hi : Nat} {M M' : mS} {y : Nat} {Y : aY} (h : cY ad M y Y) (hn : yd_n Y ≤ 6) (hF : Fr (Bk ad lo hi) M M') (hd : y + 17 ≤ lo ∨ hi ≤ y) : cY ad M' y Y := ⟨cYc_Fr hA h.1 hF (by omega), cYf_Fr hA h.2.1 hF (by omega), cYa_Fr hA h.2.2 hF (by omega)⟩
theorem c_dark (hS : YSh G ad y) (hc : cYc ad M y c) : m_X8_darkStones G M (ad y) = some (M, zn (dk c)) := by
  have h0 := hc.2.2 0 (by decide)
  unfold m_X8_darkStones o_rf o_ix
  rw [hS.2.2.1]
  dsimp only
  rw [hS.2.2.2.2.2.2.2.1, if_neg (show ¬ ((0 : Int32) < 0 ∨ 6 ≤ Int32.toNatClampNeg 0) by decide), show Int32.toNatClampNeg 0 = 0 from rfl, h0]
  have : cn c 0 4096 + dk c = 4096 := cn_nz (c := c) 4096
  rw [show (4096 : Int32) = zn 4096 from rfl, zn_sub (by omega)]
  congr 3
  omega
theorem c_inRow (hS : YSh G ad y) (hc : cYc ad M y c) {v : Int32} : m_X8_darkInRow G M (ad y) v = some (M, if v < 0 ∨ 64 ≤ v then 0 else zn (nz c (64 * v.toNatClampNeg) 64)) := by
  unfold m_X8_darkInRow m_X8_darkInRow_19
  by_cases h1 : v < 0
  · rw [if_pos h1, if_pos (Or.inl h1)]
  · rw [if_neg h1]
    by_cases h2 : (64 : Int32) ≤ v
    · rw [if_pos h2, if_pos (Or.inr h2)]
    · rw [if_neg h2, if_neg (by rintro (h | h); exact h1 h; exact h2 h)]
      obtain ⟨n, hn, rfl⟩ := I32_nat h1
      rw [show (64 : Int32) = zn 64 from rfl, zn_le (by omega) hn] at h2
      unfold o_rf o_ix
      rw [hS.2.1]
      dsimp only
      rw [hS.2.2.2.2.2.2.1, if_neg (show ¬ (zn n < 0 ∨ 64 ≤ (zn n).toNatClampNeg) from zn_in (by omega) (by decide)), zn_nat hn, hc.2.1 n (by omega)]
theorem c_colourAt (hS : YSh G ad y) (hc : cYc ad M y c) {p : Nat} (hp : p < 4096) : m_X8_colourAt G M (ad y) (zn p) = some (M, zn (c p)) := by
  have h1 : ¬ zn p < 0 := zn_nn (by omega)
  have h2 : ¬ (4096 : Int32) ≤ zn p := by rw [show (4096 : Int32) = zn 4096 from rfl, zn_le (by omega) (by omega)]; omega
  unfold m_X8_colourAt
  rw [if_neg h1, if_neg h2]
  unfold o_rf o_ix
  rw [hS.1]
  dsimp only
  rw [hS.2.2.2.2.2.1, if_neg (show ¬ (zn p < 0 ∨ 4096 ≤ (zn p).toNatClampNeg) from zn_in (by omega) (by decide)), zn_nat (a := p) (by omega), hc.1 p hp]
theorem c_isCol {v : Nat} (hv : v < 6) : m_X9_isColour G M (zn v) = some (M, 1) := by
  have h1 : ¬ zn v < 0 := zn_nn (by omega)
  have h2 : ¬ (6 : Int32) ≤ zn v := by rw [show (6 : Int32) = zn 6 from rfl, zn_le (by omega) (by omega)]; omega
  unfold m_X9_isColour
  rw [if_neg h1, if_neg h2]
  unfold o_ck
  rw [if_pos (show (1 : Int32) = 0 ∨ (1 : Int32) = 1 from Or.inr rfl)]
theorem cYc_set (hA : Inj ad) (hS : YSh G ad y) (hc : cYc ad M y c) (hv : ∀ p, c p < 6) {p v : Nat} (hp : p < 4096) (hw : v < 6) : p_cl (m_X8_setStone G M (ad y) (zn p) (zn v)) (fun M' _ => cYc ad M' y (cSet c p v) ∧ Fr (Bk ad (y + 1) (y + 4)) M M') := by
  have hcol := c_colourAt hS hc hp
  obtain ⟨s0, s1, s2, s3, s4, n1, n2, n3, n4, s5⟩ := hS
  obtain ⟨c1, c2, c3⟩ := hc
  have k12 : ad (y + 1) ≠ ad (y + 2) := ad_ne hA (by omega)
  have k13 : ad (y + 1) ≠ ad (y + 3) := ad_ne hA (by omega)
  have k21 : ad (y + 2) ≠ ad (y + 1) := ad_ne hA (by omega)
  have k23 : ad (y + 2) ≠ ad (y + 3) := ad_ne hA (by omega)
  have k31 : ad (y + 3) ≠ ad (y + 1) := ad_ne hA (by omega)
  have k32 : ad (y + 3) ≠ ad (y + 2) := ad_ne hA (by omega)
  have hb := hv p
  have hr : p / 64 < 64 := by omega
  unfold m_X8_setStone
  rw [hcol]
  refine c_cl (c_some (c_f (zn_nn (by omega)) (c_f (by rw [show (4096 : Int32) = zn 4096 from rfl, zn_le (by omega) (by omega)]; omega) ?_)))
  rw [c_isCol hw]
  refine c_cl (c_some (c_f (by decide) ?_))
  rw [c_isCol hb]
  refine c_cl (c_some (c_f (by decide) (c_ck (by decide) (c_bd (c_rf s0 (c_ix (by rw [n1]; exact zn_in hp (by decide)) (c_wI ?_)))))))
  rw [zn_nat (a := p) (by omega), show (64 : Int32) = zn 64 from rfl, zn_div (by omega) (by omega)]
  refine c_rf s2 (c_ix (by rw [n3]; exact zn_in hb (by decide)) (c_ix (by rw [n3]; exact zn_in hb (by decide)) (c_wI ?_)))
  rw [zn_nat (a := c p) (by omega)]
  refine c_rf s2 (c_ix (by rw [n3]; exact zn_in hw (by decide)) (c_ix (by rw [n3]; exact zn_in hw (by decide)) (c_wI ?_)))
  rw [zn_nat (a := v) (by omega)]
  refine c_rf s1 (c_ix (by rw [n2]; exact zn_in hr (by decide)) ?_)
  rw [zn_nat (a := p / 64) (by omega)]
  have fin : ∀ (x z : Int32), (x - z = zn (if v = 0 then 0 else 1) - zn (if c p = 0 then 0 else 1)) → p_cl (m_X8_setStone_91 G (ad y) (zn p) (zn v) (wI (wI (wI M (ad (y + 1)) p (zn v)) (ad (y + 3)) (c p) (mI (wI M (ad (y + 1)) p (zn v)) (ad (y + 3)) (c p) - 1)) (ad (y + 3)) v (mI (wI (wI M (ad (y + 1)) p (zn v)) (ad (y + 3)) (c p) (mI (wI M (ad (y + 1)) p (zn v)) (ad (y + 3)) (c p) - 1)) (ad (y + 3)) v + 1)) (ad (y + 2)) (zn (p / 64)) (mI (wI (wI (wI M (ad (y + 1)) p (zn v)) (ad (y + 3)) (c p) (mI (wI M (ad (y + 1)) p (zn v)) (ad (y + 3)) (c p) - 1)) (ad (y + 3)) v (mI (wI (wI M (ad (y + 1)) p (zn v)) (ad (y + 3)) (c p) (mI (wI M (ad (y + 1)) p (zn v)) (ad (y + 3)) (c p) - 1)) (ad (y + 3)) v + 1)) (ad (y + 2)) (p / 64)) x z) (fun M' _ => cYc ad M' y (cSet c p v) ∧ Fr (Bk ad (y + 1) (y + 4)) M M') := by
    intro x z hxz
    unfold m_X8_setStone_91
    refine c_ix (by rw [n2]; exact zn_in hr (by decide)) (c_wI (c_some ⟨⟨?_, ?_, ?_⟩, ?_⟩))
    · intro q hq
      simp only [mI_wI, upd_at, k12, k13, k21, k23, k31, k32, reduceIte]
      rw [cSet_at]
      split
      · rfl
      · exact c1 q hq
    · intro r hr2
      rw [zn_nat (by omega)]
      simp only [mI_wI, upd_at, k12, k13, k21, k23, k31, k32, reduceIte]
      by_cases h : r = p / 64
      · rw [if_pos h, h, hxz, c2 (p / 64) hr]
        have := nz_set (c := c) (p := p) (v := v) (b := 64 * (p / 64)) 64 (by omega) (by omega)
        have h2 := congrArg zn this
        rw [← zn_add, ← zn_add] at h2
        grind
      · rw [if_neg h, nz_out 64 (by omega)]
        exact c2 r hr2
    · intro w hw2
      simp only [mI_wI, upd_at, k12, k13, k21, k23, k31, k32, reduceIte]
      have := cn_set (c := c) (p := p) (v := v) (w := w) 4096 hp
      have h2 := congrArg zn this
      rw [← zn_add, ← zn_add] at h2
      have e1 : zn 1 = 1 := rfl
      have e0 : zn 0 = 0 := rfl
      by_cases g1 : c p = w
      · by_cases g2 : v = w
        · rw [if_pos g1, if_pos g2] at h2
          rw [if_pos g2.symm, if_pos (g2.trans g1.symm), ← g1, c3 (c p) hb]
          rw [← g1] at h2
          grind
        · rw [if_pos g1, if_neg g2] at h2
          rw [if_neg (Ne.symm g2), if_pos g1.symm, c3 (c p) hb, g1]
          grind
      · by_cases g2 : v = w
        · rw [if_neg g1, if_pos g2] at h2
          rw [if_pos g2.symm, if_neg (fun e => g1 (by omega)), c3 v hw, g2]
          grind
        · rw [if_neg g1, if_neg g2] at h2
          rw [if_neg (Ne.symm g2), if_neg (Ne.symm g1), c3 w hw2]
          grind
    · exact Fr_wI (Fr_wI (Fr_wI (Fr_wI Fr_rf (Bk_in (by omega) (by omega))) (Bk_in (by omega) (by omega))) (Bk_in (by omega) (by omega))) (Bk_in (by omega) (by omega))
  have z1 : zn v = 0 ↔ v = 0 := zn_inj (b := 0) (by omega) (by decide)
  have z2 : zn (c p) = 0 ↔ c p = 0 := zn_inj (b := 0) (by omega) (by decide)
  refine c_if (fun g => ?_) (fun g => ?_)
  · unfold m_X8_setStone_82
    refine c_if (fun g2 => ?_) (fun g2 => ?_)
    · exact fin _ _ (by rw [if_pos (z1.mp g), if_pos (z2.mp g2)]; rfl)
    · exact fin _ _ (by rw [if_pos (z1.mp g), if_neg (fun e => g2 (z2.mpr e))]; rfl)
  · unfold m_X8_setStone_82
    refine c_if (fun g2 => ?_) (fun g2 => ?_)
    · exact fin _ _ (by rw [if_neg (fun e => g (z1.mpr e)), if_pos (z2.mp g2)]; rfl)
    · exact fin _ _ (by rw [if_neg (fun e => g (z1.mpr e)), if_neg (fun e => g2 (z2.mpr e))]; rfl)
end YardSpecs
