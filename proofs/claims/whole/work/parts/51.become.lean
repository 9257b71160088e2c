/-! the reference: a state becomes another one -/
section BecomeM
variable {G : gS} {ad : Nat → Nat} {M : mS} {s z : Nat} {Y : aY}
theorem m_copy (hA : Inj ad) {i j N a : Nat} (h1 : gN G (ad i) = N) (h2 : gN G (ad j) = N) (hN : N < 2147483648) : p_cl (m_X11_copy G M a (ad i) (ad j)) (fun M' _ => (∀ p, p < N → mI M' (ad j) p = mI M (ad i) p) ∧ (∀ k, k ≠ j → mI M' (ad k) = mI M (ad k)) ∧ Fr (Bk ad j (j + 1)) M M') := by
  have e : (Int32.ofNat N).toNatClampNeg = N := zn_nat hN
  unfold m_X11_copy
  rw [h1, h2]
  refine c_ck ⟨zn_nn hN, by rw [e]; exact Nat.le_refl _, by rw [e]; exact Nat.le_refl _⟩ (c_wC (c_some ⟨fun p hp => ?_, fun k hk => ?_, ?_⟩))
  · rw [mI_wC, if_pos rfl, e, cpy0_at hp]
  · rw [mI_wC, if_neg (ad_ne hA hk)]
  · exact Fr_wC Fr_rf (Bk_in (by omega) (by omega))
theorem mY_become (hA : Inj ad) (hS : SSh G ad s) (hZ : SSh G ad z) (hsz : s + 12 ≤ z ∨ z + 12 ≤ s) (hn : yd_n Y ≤ 6) (hc : mY ad M z Y) : p_cl (m_X11_become G M (ad s) (ad z)) (fun M' r => r = ad s ∧ mY ad M' s Y ∧ Fr (Bk ad s (s + 12)) M M') := by
  have hne : ad z ≠ ad s := ad_ne hA (by omega)
  obtain ⟨⟨c1, c2⟩, ⟨f0, f1, f2, f3⟩, ca⟩ := hc
  unfold m_X11_become
  refine c_wI (c_wI (c_wI (c_wI ?_)))
  have e0 : ∀ (v0 v1 v2 v3 : Int32) (k : Nat), k ≠ s → mI (wI (wI (wI (wI M (ad s) 0 v0) (ad s) 1 v1) (ad s) 2 v2) (ad s) 3 v3) (ad k) = mI M (ad k) := fun v0 v1 v2 v3 k hk => by
    rw [mI_wI, if_neg (ad_ne hA hk), mI_wI, if_neg (ad_ne hA hk), mI_wI, if_neg (ad_ne hA hk), mI_wI, if_neg (ad_ne hA hk)]
  have F0 : ∀ v0 v1 v2 v3 : Int32, Fr (Bk ad s (s + 12)) M (wI (wI (wI (wI M (ad s) 0 v0) (ad s) 1 v1) (ad s) 2 v2) (ad s) 3 v3) := fun v0 v1 v2 v3 => Fr_wI (Fr_wI (Fr_wI (Fr_wI Fr_rf (Bk_in (by omega) (by omega))) (Bk_in (by omega) (by omega))) (Bk_in (by omega) (by omega))) (Bk_in (by omega) (by omega))
  simp only [mI_wI, hne, reduceIte, f0, f1, f2, f3]
  have b0 := e0 (zn (yd_t Y)) (zn (yd_m Y)) (zn (yd_w Y)) (zn (yd_k Y))
  have F1 := F0 (zn (yd_t Y)) (zn (yd_m Y)) (zn (yd_w Y)) (zn (yd_k Y))
  have g0 : ∀ M', M' = wI (wI (wI (wI M (ad s) 0 (zn (yd_t Y))) (ad s) 1 (zn (yd_m Y))) (ad s) 2 (zn (yd_w Y))) (ad s) 3 (zn (yd_k Y)) → mI M' (ad s) 0 = zn (yd_t Y) ∧ mI M' (ad s) 1 = zn (yd_m Y) ∧ mI M' (ad s) 2 = zn (yd_w Y) ∧ mI M' (ad s) 3 = zn (yd_k Y) := by
    rintro M' rfl
    simp only [mI_wI, upd_at, reduceIte, Nat.reduceEqDiff]
    exact ⟨trivial, trivial, trivial, trivial⟩
  have g0 := g0 _ rfl
  generalize wI (wI (wI (wI M (ad s) 0 (zn (yd_t Y))) (ad s) 1 (zn (yd_m Y))) (ad s) 2 (zn (yd_w Y))) (ad s) 3 (zn (yd_k Y)) = M0 at b0 F1 g0 ⊢
  refine c_rf (s4 hZ) (c_rf (s4 hS) (c_clm (m_copy hA (sn1 hZ) (sn1 hS) (by decide)) ?_))
  rintro M1 _ ⟨a1, b1, d1⟩
  refine c_rf (s5 hZ) (c_rf (s5 hS) (c_clm (m_copy hA (sn2 hZ) (sn2 hS) (by decide)) ?_))
  rintro M2 _ ⟨a2, b2, d2⟩
  refine c_rf (s6 hZ) (c_rf (s6 hS) (c_clm (m_copy hA (sn3 hZ) (sn3 hS) (by decide)) ?_))
  rintro M3 _ ⟨a3, b3, d3⟩
  refine c_rf (s7 hZ) (c_rf (s7 hS) (c_clm (m_copy hA (sn4 hZ) (sn4 hS) (by decide)) ?_))
  rintro M4 _ ⟨a4, b4, d4⟩
  refine c_rf (s8 hZ) (c_rf (s8 hS) (c_clm (m_copy hA (sn5 hZ) (sn5 hS) (by decide)) ?_))
  rintro M5 _ ⟨a5, b5, d5⟩
  refine c_rf (s9 hZ) (c_rf (s9 hS) (c_clm (m_copy hA (sn6 hZ) (sn6 hS) (by decide)) ?_))
  rintro M6 _ ⟨a6, b6, d6⟩
  refine c_rf (s10 hZ) (c_rf (s10 hS) (c_clm (m_copy hA (sn7 hZ) (sn7 hS) (by decide)) ?_))
  rintro M7 _ ⟨a7, b7, d7⟩
  refine c_rf (s11 hZ) (c_rf (s11 hS) (c_clm (m_copy hA (sn8 hZ) (sn8 hS) (by decide)) ?_))
  rintro M8 _ ⟨a8, b8, d8⟩
  refine c_rf (s12 hZ) (c_rf (s12 hS) (c_clm (m_copy hA (sn9 hZ) (sn9 hS) (by decide)) ?_))
  rintro M9 _ ⟨a9, b9, d9⟩
  refine c_rf (s13 hZ) (c_rf (s13 hS) (c_clm (m_copy hA (sn10 hZ) (sn10 hS) (by decide)) ?_))
  rintro M10 _ ⟨a10, b10, d10⟩
  have x1 : ∀ p, p < 4096 → mI M10 (ad (s + 1)) p = mI M (ad (z + 1)) p := fun p hp => by rw [b10 (s + 1) (by omega), b9 (s + 1) (by omega), b8 (s + 1) (by omega), b7 (s + 1) (by omega), b6 (s + 1) (by omega), b5 (s + 1) (by omega), b4 (s + 1) (by omega), b3 (s + 1) (by omega), b2 (s + 1) (by omega), a1 p hp, b0 (z + 1) (by omega)]
  have x2 : ∀ p, p < 64 → mI M10 (ad (s + 2)) p = mI M (ad (z + 2)) p := fun p hp => by rw [b10 (s + 2) (by omega), b9 (s + 2) (by omega), b8 (s + 2) (by omega), b7 (s + 2) (by omega), b6 (s + 2) (by omega), b5 (s + 2) (by omega), b4 (s + 2) (by omega), b3 (s + 2) (by omega), a2 p hp, b1 (z + 2) (by omega), b0 (z + 2) (by omega)]
  have x3 : ∀ p, p < 6 → mI M10 (ad (s + 3)) p = mI M (ad (z + 3)) p := fun p hp => by rw [b10 (s + 3) (by omega), b9 (s + 3) (by omega), b8 (s + 3) (by omega), b7 (s + 3) (by omega), b6 (s + 3) (by omega), b5 (s + 3) (by omega), b4 (s + 3) (by omega), a3 p hp, b2 (z + 3) (by omega), b1 (z + 3) (by omega), b0 (z + 3) (by omega)]
  have x4 : ∀ p, p < 6 → mI M10 (ad (s + 4)) p = mI M (ad (z + 4)) p := fun p hp => by rw [b10 (s + 4) (by omega), b9 (s + 4) (by omega), b8 (s + 4) (by omega), b7 (s + 4) (by omega), b6 (s + 4) (by omega), b5 (s + 4) (by omega), a4 p hp, b3 (z + 4) (by omega), b2 (z + 4) (by omega), b1 (z + 4) (by omega), b0 (z + 4) (by omega)]
  have x5 : ∀ p, p < 6 → mI M10 (ad (s + 5)) p = mI M (ad (z + 5)) p := fun p hp => by rw [b10 (s + 5) (by omega), b9 (s + 5) (by omega), b8 (s + 5) (by omega), b7 (s + 5) (by omega), b6 (s + 5) (by omega), a5 p hp, b4 (z + 5) (by omega), b3 (z + 5) (by omega), b2 (z + 5) (by omega), b1 (z + 5) (by omega), b0 (z + 5) (by omega)]
  have x6 : ∀ p, p < 6 → mI M10 (ad (s + 6)) p = mI M (ad (z + 6)) p := fun p hp => by rw [b10 (s + 6) (by omega), b9 (s + 6) (by omega), b8 (s + 6) (by omega), b7 (s + 6) (by omega), a6 p hp, b5 (z + 6) (by omega), b4 (z + 6) (by omega), b3 (z + 6) (by omega), b2 (z + 6) (by omega), b1 (z + 6) (by omega), b0 (z + 6) (by omega)]
  have x7 : ∀ p, p < 6 → mI M10 (ad (s + 7)) p = mI M (ad (z + 7)) p := fun p hp => by rw [b10 (s + 7) (by omega), b9 (s + 7) (by omega), b8 (s + 7) (by omega), a7 p hp, b6 (z + 7) (by omega), b5 (z + 7) (by omega), b4 (z + 7) (by omega), b3 (z + 7) (by omega), b2 (z + 7) (by omega), b1 (z + 7) (by omega), b0 (z + 7) (by omega)]
  have x8 : ∀ p, p < 6 → mI M10 (ad (s + 8)) p = mI M (ad (z + 8)) p := fun p hp => by rw [b10 (s + 8) (by omega), b9 (s + 8) (by omega), a8 p hp, b7 (z + 8) (by omega), b6 (z + 8) (by omega), b5 (z + 8) (by omega), b4 (z + 8) (by omega), b3 (z + 8) (by omega), b2 (z + 8) (by omega), b1 (z + 8) (by omega), b0 (z + 8) (by omega)]
  have x9 : ∀ p, p < 768 → mI M10 (ad (s + 9)) p = mI M (ad (z + 9)) p := fun p hp => by rw [b10 (s + 9) (by omega), a9 p hp, b8 (z + 9) (by omega), b7 (z + 9) (by omega), b6 (z + 9) (by omega), b5 (z + 9) (by omega), b4 (z + 9) (by omega), b3 (z + 9) (by omega), b2 (z + 9) (by omega), b1 (z + 9) (by omega), b0 (z + 9) (by omega)]
  have x10 : ∀ p, p < 726 → mI M10 (ad (s + 10)) p = mI M (ad (z + 10)) p := fun p hp => by rw [a10 p hp, b9 (z + 10) (by omega), b8 (z + 10) (by omega), b7 (z + 10) (by omega), b6 (z + 10) (by omega), b5 (z + 10) (by omega), b4 (z + 10) (by omega), b3 (z + 10) (by omega), b2 (z + 10) (by omega), b1 (z + 10) (by omega), b0 (z + 10) (by omega)]
  refine c_some ⟨rfl, ⟨⟨fun p hp => ?_, fun r hr => ?_⟩, ?_, fun i hi => ?_⟩, Fr_tr (Fr_tr (Fr_tr (Fr_tr (Fr_tr (Fr_tr (Fr_tr (Fr_tr (Fr_tr (Fr_tr (F1) (Fr_sub d1 (by omega) (by omega))) (Fr_sub d2 (by omega) (by omega))) (Fr_sub d3 (by omega) (by omega))) (Fr_sub d4 (by omega) (by omega))) (Fr_sub d5 (by omega) (by omega))) (Fr_sub d6 (by omega) (by omega))) (Fr_sub d7 (by omega) (by omega))) (Fr_sub d8 (by omega) (by omega))) (Fr_sub d9 (by omega) (by omega))) (Fr_sub d10 (by omega) (by omega))⟩
  · rw [x1 p hp]; exact c1 p hp
  · rw [x2 r hr]; exact c2 r hr
  · unfold mYf
    rw [b10 s (by omega), b9 s (by omega), b8 s (by omega), b7 s (by omega), b6 s (by omega), b5 s (by omega), b4 s (by omega), b3 s (by omega), b2 s (by omega), b1 s (by omega)]
    exact g0
  · obtain ⟨h3, h4, h5, h6, h7, h8, h9, h10⟩ := ca i hi
    have hi6 : i < 6 := by omega
    refine ⟨by rw [x3 i hi6]; exact h3, by rw [x4 i hi6]; exact h4, by rw [x5 i hi6]; exact h5, by rw [x6 i hi6]; exact h6, by rw [x7 i hi6]; exact h7, by rw [x8 i hi6]; exact h8, fun k k1 k2 k3 => ?_, fun p p1 p2 => ?_⟩
    · have : (an_n (yd_a Y i) - k) % 128 < 128 := Nat.mod_lt _ (by decide)
      rw [x9 _ (by omega)]
      exact h9 k k1 k2 k3
    · rw [x10 _ (by omega)]
      exact h10 p p1 p2
end BecomeM
