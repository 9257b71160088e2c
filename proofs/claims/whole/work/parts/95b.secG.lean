/-! the reference's second pass: places -/
section SecG
variable {G : gS} {ad : Nat → Nat} {M : mS} {T : Nat → Nat} {tl p : Nat} {C : List Int32} {O : List Nat} {ro : Nat → Nat} {W : List (Nat × Nat)} {P : aP} {Y : aY} {c : Nat}
/-- a number is kept as a place -/
theorem t_place (hA : Inj ad) (hS : Sh G ad) (hq : gP G (ad 70) 12 = some (ad 126)) (hL : LSh G ad 126) (htl : tl ≤ 2000) (hT : ∀ k, k < tl → T k < 256) (h : ML ad M T tl p C O ro W) (hR : RP ad M P Y c) (hc : c ≤ 2) {j : Nat} (hj : kdT T tl j = 3) : p_cl (m_X12_place G M (ad 70) (zn j)) (fun M' v => v = zn (if 0 ≤ numT T tl j ∧ numT T tl j ≤ 63 then 0 else 5) ∧ M' = wI (wI M (ad 129) c (zn (numT T tl j))) (ad 126) 4 (zn (c + 1))) := by
  unfold m_X12_place
  refine c_rf hq (c_rf (l5 hL) (c_rf hq ?_))
  rw [w_num hS htl h.1 hj hT]
  refine c_cl (c_some ?_)
  rw [hR.1.2.2.2]
  refine c_ix (by rw [ln3 hL]; exact zn_in (by omega) (by decide)) (c_wI (c_rf hq (c_wI ?_)))
  rw [zn_nat (show c < 2147483648 by omega), wI_ne hA (show (126 : Nat) ≠ 126 + 3 ∨ _ from Or.inl (by decide)), hR.1.2.2.2, zn_one]
  have fx : SFr ad M (wI (wI M (ad (126 + 3)) c (zn (numT T tl j))) (ad 126) 4 (zn (c + 1))) := SFr_tr (SFr_x hA (by omega)) (SFr_x hA (by omega))
  have f7 : mI (wI (wI M (ad (126 + 3)) c (zn (numT T tl j))) (ad 126) 4 (zn (c + 1))) (ad 70) = mI M (ad 70) := by rw [mI_wI, if_neg (ad_ne hA (by decide)), mI_wI, if_neg (ad_ne hA (by decide))]
  have h2 := ML_S hA h fx (by rw [f7]; exact h.1.2.1.1) h.1.2.1.2.1
  rw [show m_X12_inRange G (wI (wI M (ad (126 + 3)) c (zn (numT T tl j))) (ad 126) 4 (zn (c + 1))) (ad 70) (zn j) 0 63 = _ from t_range hS htl hT h2 (a := 0) (b := 63) hj (by decide) (by decide)]
  refine c_cl (c_some (c_some ⟨?_, rfl⟩))
  split <;> rfl
theorem RP_pl (hA : Inj ad) (hR : RP ad M P Y c) {v : Int32} : RP ad (wI (wI M (ad 129) c v) (ad 126) 4 (zn (c + 1))) P Y (c + 1) := RP_cnt hA (RP_keep hR (fun b h1 h2 h3 => by rw [mI_wI, if_neg (ad_ne hA (by omega))]))
/-- a place of a stone -/
theorem e_place (hA : Inj ad) (hS : Sh G ad) (hq : gP G (ad 70) 12 = some (ad 126)) (hL : LSh G ad 126) (htl : tl ≤ 2000) (hT : ∀ k, k < tl → T k < 256) (h : ML ad M T tl p C O ro W) (hR : RP ad M P Y c) (hc : c ≤ 2) {j : Nat} (hj1 : ro j = 7) (hj : kdT T tl j = 3) : PostE ad j M (m_X12_errorOf G M (ad 70) (zn j)) (if 0 ≤ numT T tl j ∧ numT T tl j ≤ 63 then 0 else 5) (fun M' => RP ad M' P Y (c + 1) ∧ mI M' (ad 129) c = zn (numT T tl j) ∧ ∀ i, i ≠ c → mI M' (ad 129) i = mI M (ad 129) i) := by
  have hn := nT_le (T := T) (tl := tl)
  have qj := kdT_lt (T := T) (tl := tl) (q := j) (by omega)
  unfold m_X12_errorOf
  refine c_rf hq (c_rf (sh_m7 hS) (c_ix (by rw [sh_mn7 hS]; exact zn_in (by omega) (by decide)) ?_))
  rw [zn_nat (show j < 2147483648 by omega), h.1.2.2.2.2 j (by omega), hj1]
  refine c_f (by decide) (c_f (by decide) (c_f (by decide) (c_f (by decide) (c_f (by decide) (c_f (by decide) (c_t rfl ?_))))))
  refine c_clm (t_place hA hS hq hL htl hT h hR hc hj) ?_
  rintro M1 v ⟨rfl, rfl⟩
  refine c_some ⟨rfl, SFr_tr (SFr_x hA (by omega)) (SFr_x hA (by omega)), kp_tr (kp_x hA (by decide) (Or.inl (by decide))) (kp_x hA (by decide) (Or.inl (by decide))), fun _ => ⟨RP_pl hA hR, ?_, fun i hi => ?_⟩⟩
  · rw [wI_ne hA (Or.inl (by decide)), wI_eq]
  · rw [wI_ne hA (Or.inl (by decide)), wI_ne hA (Or.inr hi)]
/-- an ant's column, then its row -/
theorem e_col (hA : Inj ad) (hS : Sh G ad) (hq : gP G (ad 70) 12 = some (ad 126)) (hL : LSh G ad 126) (htl : tl ≤ 2000) (hT : ∀ k, k < tl → T k < 256) (h : ML ad M T tl p C O ro W) (hR : RP ad M P Y 0) (h1 : 1 ≤ yd_n Y) (h6 : yd_n Y ≤ 6) {j : Nat} (hj1 : ro j = 5) (hj : kdT T tl j = 3) : PostE ad j M (m_X12_errorOf G M (ad 70) (zn j)) (if 0 ≤ numT T tl j ∧ numT T tl j ≤ 63 then 0 else 5) (fun M' => RP ad M' P (aAnt (yd_n Y - 1) (anMove (numT T tl j) 0 (yd_a Y (yd_n Y - 1))) Y) 1 ∧ mI M' (ad 129) 0 = zn (numT T tl j)) := by
  have hn := nT_le (T := T) (tl := tl)
  have qj := kdT_lt (T := T) (tl := tl) (q := j) (by omega)
  unfold m_X12_errorOf
  refine c_rf hq (c_rf (sh_m7 hS) (c_ix (by rw [sh_mn7 hS]; exact zn_in (by omega) (by decide)) ?_))
  rw [zn_nat (show j < 2147483648 by omega), h.1.2.2.2.2 j (by omega), hj1]
  refine c_f (by decide) (c_f (by decide) (c_f (by decide) (c_f (by decide) (c_t rfl ?_))))
  unfold m_X12_antPlace m_X12_antPlace_72
  refine c_cl (c_clm (t_place hA hS hq hL htl hT h hR (by decide) hj) ?_)
  rintro M1 v ⟨rfl, hM1⟩
  have hR1 : RP ad M1 P Y 1 := by rw [hM1]; exact RP_pl hA hR
  have e0 : mI M1 (ad 129) 0 = zn (numT T tl j) := by rw [hM1, wI_ne hA (Or.inl (by decide)), wI_eq]
  have fx : SFr ad M M1 := by rw [hM1]; exact SFr_tr (SFr_x hA (by omega)) (SFr_x hA (by omega))
  have kx : kp ad j M M1 := by rw [hM1]; exact kp_tr (kp_x hA (by decide) (Or.inl (by decide))) (kp_x hA (by decide) (Or.inl (by decide)))
  clear hM1
  refine c_rf hq (c_rf (l7 hL) (c_rf hq (c_rf hq (c_rf (l5 hL) ?_))))
  rw [hR1.1.2.1, show zn (yd_n Y) - 1 = zn (yd_n Y - 1) from zn_sub (b := 1) (by omega)]
  refine c_ix (by rw [ln3 hL]; unfold vp_in; decide) (c_ix (by rw [ln5 hL]; exact zn_in (by omega) (by decide)) (c_wI (c_rf hq (c_rf (l8 hL) (c_rf hq (c_rf hq ?_))))))
  rw [zn_nat (show yd_n Y - 1 < 2147483648 by omega), wI_ne hA (show (126 : Nat) ≠ 126 + 5 ∨ _ from Or.inl (by decide)), wI_ne hA (show (126 : Nat) ≠ 126 + 5 ∨ _ from Or.inl (by decide)), hR1.1.2.1, hR1.1.2.2.2, show zn (yd_n Y) - 1 = zn (yd_n Y - 1) from zn_sub (b := 1) (by omega)]
  refine c_t (by decide) (c_ix (by rw [ln6 hL]; exact zn_in (by omega) (by decide)) (c_wI (c_some (c_some ?_))))
  rw [zn_nat (show yd_n Y - 1 < 2147483648 by omega), show mI M1 (ad (126 + 3)) (Int32.toNatClampNeg 0) = zn (numT T tl j) from e0]
  refine ⟨rfl, SFr_tr fx (SFr_tr (SFr_x hA (by omega)) (SFr_x hA (by omega))), kp_tr kx (kp_tr (kp_x hA (by decide) (Or.inl (by decide))) (kp_x hA (by decide) (Or.inl (by decide)))), fun _ => ⟨?_, ?_⟩⟩
  · obtain ⟨a1, a2, a3, a4⟩ := hR1.2.2.1.1 (yd_n Y - 1) (by omega)
    have kk : ∀ b, b ≠ 126 + 5 → b ≠ 126 + 6 → mI (wI (wI M1 (ad (126 + 5)) (yd_n Y - 1) (zn (numT T tl j))) (ad (126 + 6)) (yd_n Y - 1) 0) (ad b) = mI M1 (ad b) := fun b q1 q2 => by
      rw [mI_wI, if_neg (ad_ne hA q2), mI_wI, if_neg (ad_ne hA q1)]
    refine RP_an hR1 (by omega) (fun b hb => kk b (by omega) (by omega)) (fun b q1 q2 k q3 => ?_) ⟨?_, ?_, ?_, ?_⟩
    · rw [wI_ne hA (by omega), wI_ne hA (by omega)]
    · rw [kk 130 (by decide) (by decide)]; exact a1
    · rw [wI_ne hA (Or.inl (by decide))]; exact wI_eq
    · exact wI_eq
    · rw [kk 133 (by decide) (by decide)]; exact a4
  · rw [wI_ne hA (Or.inl (by decide)), wI_ne hA (Or.inl (by decide))]; exact e0
theorem e_row (hA : Inj ad) (hS : Sh G ad) (hq : gP G (ad 70) 12 = some (ad 126)) (hL : LSh G ad 126) (htl : tl ≤ 2000) (hT : ∀ k, k < tl → T k < 256) (h : ML ad M T tl p C O ro W) (hR : RP ad M P Y 1) (h1 : 1 ≤ yd_n Y) (h6 : yd_n Y ≤ 6) {x : Nat} (hx : mI M (ad 129) 0 = zn x) {j : Nat} (hj1 : ro j = 5) (hj : kdT T tl j = 3) : PostE ad j M (m_X12_errorOf G M (ad 70) (zn j)) (if 0 ≤ numT T tl j ∧ numT T tl j ≤ 63 then 0 else 5) (fun M' => RP ad M' P (aAnt (yd_n Y - 1) (anMove x (numT T tl j) (yd_a Y (yd_n Y - 1))) Y) 2) := by
  have hn := nT_le (T := T) (tl := tl)
  have qj := kdT_lt (T := T) (tl := tl) (q := j) (by omega)
  unfold m_X12_errorOf
  refine c_rf hq (c_rf (sh_m7 hS) (c_ix (by rw [sh_mn7 hS]; exact zn_in (by omega) (by decide)) ?_))
  rw [zn_nat (show j < 2147483648 by omega), h.1.2.2.2.2 j (by omega), hj1]
  refine c_f (by decide) (c_f (by decide) (c_f (by decide) (c_f (by decide) (c_t rfl ?_))))
  unfold m_X12_antPlace m_X12_antPlace_72
  refine c_cl (c_clm (t_place hA hS hq hL htl hT h hR (by decide) hj) ?_)
  rintro M1 v ⟨rfl, hM1⟩
  have hR1 : RP ad M1 P Y 2 := by rw [hM1]; exact RP_pl hA hR
  have e0 : mI M1 (ad 129) 0 = zn x := by rw [hM1, wI_ne hA (Or.inl (by decide)), wI_ne hA (Or.inr (by decide))]; exact hx
  have e1 : mI M1 (ad 129) 1 = zn (numT T tl j) := by rw [hM1, wI_ne hA (Or.inl (by decide)), wI_eq]
  have fx : SFr ad M M1 := by rw [hM1]; exact SFr_tr (SFr_x hA (by omega)) (SFr_x hA (by omega))
  have kx : kp ad j M M1 := by rw [hM1]; exact kp_tr (kp_x hA (by decide) (Or.inl (by decide))) (kp_x hA (by decide) (Or.inl (by decide)))
  clear hM1
  refine c_rf hq (c_rf (l7 hL) (c_rf hq (c_rf hq (c_rf (l5 hL) ?_))))
  rw [hR1.1.2.1, show zn (yd_n Y) - 1 = zn (yd_n Y - 1) from zn_sub (b := 1) (by omega)]
  refine c_ix (by rw [ln3 hL]; unfold vp_in; decide) (c_ix (by rw [ln5 hL]; exact zn_in (by omega) (by decide)) (c_wI (c_rf hq (c_rf (l8 hL) (c_rf hq (c_rf hq ?_))))))
  rw [zn_nat (show yd_n Y - 1 < 2147483648 by omega), wI_ne hA (show (126 : Nat) ≠ 126 + 5 ∨ _ from Or.inl (by decide)), wI_ne hA (show (126 : Nat) ≠ 126 + 5 ∨ _ from Or.inl (by decide)), hR1.1.2.1, hR1.1.2.2.2, show zn (yd_n Y) - 1 = zn (yd_n Y - 1) from zn_sub (b := 1) (by omega)]
  refine c_f (by decide) (c_rf hq (c_rf (l5 hL) (c_ix (by rw [ln3 hL]; unfold vp_in; decide) (c_ix (by rw [ln6 hL]; exact zn_in (by omega) (by decide)) (c_wI (c_some (c_some ?_)))))))
  rw [wI_ne hA (show (126 + 3 : Nat) ≠ 126 + 5 ∨ _ from Or.inl (by decide)), zn_nat (show yd_n Y - 1 < 2147483648 by omega), show mI M1 (ad (126 + 3)) (Int32.toNatClampNeg 0) = zn x from e0, show mI M1 (ad (126 + 3)) (Int32.toNatClampNeg 1) = zn (numT T tl j) from e1]
  refine ⟨rfl, SFr_tr fx (SFr_tr (SFr_x hA (by omega)) (SFr_x hA (by omega))), kp_tr kx (kp_tr (kp_x hA (by decide) (Or.inl (by decide))) (kp_x hA (by decide) (Or.inl (by decide)))), fun _ => ?_⟩
  obtain ⟨a1, a2, a3, a4⟩ := hR1.2.2.1.1 (yd_n Y - 1) (by omega)
  have kk : ∀ b, b ≠ 126 + 5 → b ≠ 126 + 6 → mI (wI (wI M1 (ad (126 + 5)) (yd_n Y - 1) (zn x)) (ad (126 + 6)) (yd_n Y - 1) (zn (numT T tl j))) (ad b) = mI M1 (ad b) := fun b q1 q2 => by
    rw [mI_wI, if_neg (ad_ne hA q2), mI_wI, if_neg (ad_ne hA q1)]
  refine RP_an hR1 (by omega) (fun b hb => kk b (by omega) (by omega)) (fun b q1 q2 k q3 => ?_) ⟨?_, ?_, ?_, ?_⟩
  · rw [wI_ne hA (by omega), wI_ne hA (by omega)]
  · rw [kk 130 (by decide) (by decide)]; exact a1
  · rw [wI_ne hA (Or.inl (by decide))]; exact wI_eq
  · exact wI_eq
  · rw [kk 133 (by decide) (by decide)]; exact a4
/-- a stone's colour -/
theorem e_paint (hA : Inj ad) (hS : Sh G ad) (hq : gP G (ad 70) 12 = some (ad 126)) (hL : LSh G ad 126) (htl : tl ≤ 2000) (hT : ∀ k, k < tl → T k < 256) (h : ML ad M T tl p C O ro W) (hR : RP ad M P Y c) {x y : Nat} (hx : mI M (ad 129) 0 = zn x) (hy : mI M (ad 129) 1 = zn y) (hx6 : x < 64) (hy6 : y < 64) {j : Nat} (hj1 : ro j = 8) (hj : kdT T tl j = 3) : PostE ad j M (m_X12_errorOf G M (ad 70) (zn j)) (if 0 ≤ numT T tl j ∧ numT T tl j ≤ 5 then 0 else 5) (fun M' => RP ad M' P (aSet (y * 64 + x) (numT T tl j) Y) 0) := by
  have hn := nT_le (T := T) (tl := tl)
  have qj := kdT_lt (T := T) (tl := tl) (q := j) (by omega)
  unfold m_X12_errorOf
  refine c_rf hq (c_rf (sh_m7 hS) (c_ix (by rw [sh_mn7 hS]; exact zn_in (by omega) (by decide)) ?_))
  rw [zn_nat (show j < 2147483648 by omega), h.1.2.2.2.2 j (by omega), hj1]
  refine c_f (by decide) (c_f (by decide) (c_f (by decide) (c_f (by decide) (c_f (by decide) (c_f (by decide) (c_f (by decide) (c_t rfl ?_)))))))
  unfold m_X12_painted m_X12_painted_55
  rw [show m_X12_inRange G M (ad 70) (zn j) 0 5 = _ from t_range hS htl hT h (a := 0) (b := 5) hj (by decide) (by decide)]
  refine c_cl (c_cl (c_some (c_rf hq (c_wI ?_))))
  have fx : SFr ad M (wI M (ad 126) 4 0) := SFr_x hA (by omega)
  have kx : kp ad j M (wI M (ad 126) 4 0) := kp_x hA (by decide) (Or.inl (by decide))
  have hR1 : RP ad (wI M (ad 126) 4 0) P Y 0 := RP_cnt hA (c' := 0) hR
  have e0 : mI (wI M (ad 126) 4 0) (ad 129) 0 = zn x := by rw [wI_ne hA (Or.inl (by decide))]; exact hx
  have e1 : mI (wI M (ad 126) 4 0) (ad 129) 1 = zn y := by rw [wI_ne hA (Or.inl (by decide))]; exact hy
  have f7 : mI (wI M (ad 126) 4 0) (ad 70) = mI M (ad 70) := by rw [mI_wI, if_neg (ad_ne hA (by decide))]
  have h2 := ML_S hA h fx (by rw [f7]; exact h.1.2.1.1) h.1.2.1.2.1
  generalize wI M (ad 126) 4 0 = M1 at fx kx hR1 e0 e1 h2 ⊢
  by_cases g : 0 ≤ numT T tl j ∧ numT T tl j ≤ 5
  · rw [if_pos g, if_pos g]
    refine c_t rfl (c_rf hq (c_rf (l10 hL) (c_rf hq (c_rf (l5 hL) (c_ix (by rw [ln3 hL]; unfold vp_in; decide) (c_rf hq (c_rf (l5 hL) (c_ix (by rw [ln3 hL]; unfold vp_in; decide) ?_))))))))
    rw [w_num hS htl h2.1 hj hT]
    refine c_cl (c_some ?_)
    rw [show mI M1 (ad (126 + 3)) (Int32.toNatClampNeg 1) = zn y from e1, show mI M1 (ad (126 + 3)) (Int32.toNatClampNeg 0) = zn x from e0, show (64 : Int32) * zn y + zn x = zn (y * 64 + x) from by rw [show (64 : Int32) = zn 64 from rfl, zn_mul, zn_add, Nat.mul_comm]]
    refine c_ix (by rw [ln8 hL]; exact zn_in (by omega) (by decide)) (c_wI (c_some (c_some ?_)))
    rw [zn_nat (show y * 64 + x < 2147483648 by omega)]
    exact ⟨rfl, SFr_tr fx (SFr_x hA (by omega)), kp_tr kx (kp_x hA (by decide) (Or.inl (by decide))), fun _ => RP_stone hA hR1⟩
  · rw [if_neg g, if_neg g]
    exact c_f (by decide) (c_some (c_some ⟨rfl, fx, kx, fun q => absurd q (by decide)⟩))
end SecG
