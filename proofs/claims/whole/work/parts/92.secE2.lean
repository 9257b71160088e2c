/-! the reference's second pass: errors of turns and orders -/
section SecE2
variable {G : gS} {ad : Nat → Nat} {M : mS} {T : Nat → Nat} {tl p : Nat} {C : List Int32} {O : List Nat} {ro : Nat → Nat} {W : List (Nat × Nat)} {P : aP} {Y : aY} {c : Nat}
theorem e_turn (hA : Inj ad) (hS : Sh G ad) (hq : gP G (ad 70) 12 = some (ad 126)) (hL : LSh G ad 126) (h : ML ad M T tl p C O ro W) (hR : RP ad M P Y c) (h1 : 1 ≤ pg_r P) (h5 : pg_r P ≤ 5) (h6 : ∀ r, r < pg_r P → pg_z P r ≤ 6) {j : Nat} (hj1 : ro j = 3) (hj : 201 ≤ kdT T tl j ∧ kdT T tl j ≤ 204) : PostE ad j M (m_X12_errorOf G M (ad 70) (zn j)) (if pg_z P (pg_r P - 1) = 6 then 4 else 0) (fun M' => RP ad M' (pTurn (kdT T tl j - 201) P) Y c) := by
  have hn := nT_le (T := T) (tl := tl)
  have qj := kdT_lt (T := T) (tl := tl) (q := j) (by omega)
  have z6 := h6 (pg_r P - 1) (by omega)
  have hz := hR.2.1.1 (pg_r P - 1) (by omega)
  unfold m_X12_errorOf
  refine c_rf hq (c_rf (sh_m7 hS) (c_ix (by rw [sh_mn7 hS]; exact zn_in (by omega) (by decide)) ?_))
  rw [zn_nat (show j < 2147483648 by omega), h.1.2.2.2.2 j (by omega), hj1]
  refine c_f (by decide) (c_f (by decide) (c_t rfl ?_))
  unfold m_X12_newTurn
  refine c_cl (c_rf hq (c_bd ?_))
  rw [hR.1.1, show zn (pg_r P) - 1 = zn (pg_r P - 1) from zn_sub (b := 1) (by omega)]
  refine c_rf hq (c_rf (l1 hL) (c_ix (by rw [ln1 hL]; exact zn_in (by omega) (by decide)) ?_))
  rw [zn_nat (show pg_r P - 1 < 2147483648 by omega), zn_nat (show j < 2147483648 by omega)]
  rw [show mI M (ad (126 + 1)) (pg_r P - 1) = zn (pg_z P (pg_r P - 1)) from hz]
  refine c_if (fun g => ?_) (fun g => ?_)
  · have g : pg_z P (pg_r P - 1) = 6 := (zn_lit (by omega) (by decide)).mp g
    rw [if_pos g]
    exact c_some (c_some ⟨rfl, SFr_rf, kp_rf, fun q => absurd q (by decide)⟩)
  · have g : ¬ pg_z P (pg_r P - 1) = 6 := fun q => g ((zn_lit (by omega) (by decide)).mpr q)
    rw [if_neg g]
    refine c_rf hq (c_rf (l2 hL) (c_rf hq (c_rf (l1 hL) (c_ix (by rw [ln1 hL]; exact zn_in (by omega) (by decide)) (c_rf (sh_m4 hS) (c_ix (by rw [sh_mn4 hS]; exact zn_in (by omega) (by decide)) ?_))))))
    rw [show mI M (ad (126 + 1)) (pg_r P - 1) = zn (pg_z P (pg_r P - 1)) from hz, show (6 : Int32) * zn (pg_r P - 1) + zn (pg_z P (pg_r P - 1)) = zn (6 * (pg_r P - 1) + pg_z P (pg_r P - 1)) from by rw [show (6 : Int32) = zn 6 from rfl, zn_mul, zn_add]]
    refine c_ix (by rw [ln2 hL]; exact zn_in (by omega) (by decide)) (c_wI ?_)
    rw [zn_nat (show 6 * (pg_r P - 1) + pg_z P (pg_r P - 1) < 2147483648 by omega), (h.1.1.2.1 j (by omega)).1]
    have ek : zn (kr (kdT T tl j)) - 1 = zn (kdT T tl j - 201) := by
      have : kr (kdT T tl j) = kdT T tl j - 200 := by
        unfold kr
        rw [if_neg (by omega), if_neg (by omega), if_neg (by omega), if_neg (by omega), if_neg (by omega), if_neg (by omega), if_pos (by omega)]
      rw [this, show zn (kdT T tl j - 200) - 1 = zn (kdT T tl j - 200 - 1) from zn_sub (b := 1) (by omega)]
      exact congrArg zn (show kdT T tl j - 200 - 1 = kdT T tl j - 201 by omega)
    rw [ek]
    refine c_rf hq (c_rf (l1 hL) (c_ix (by rw [ln1 hL]; exact zn_in (by omega) (by decide)) (c_ix (by rw [ln1 hL]; exact zn_in (by omega) (by decide)) (c_wI (c_some (c_some ?_))))))
    rw [wI_ne hA (show (126 + 1 : Nat) ≠ 126 + 2 ∨ _ from Or.inl (by decide)), show mI M (ad (126 + 1)) (pg_r P - 1) = zn (pg_z P (pg_r P - 1)) from hz, zn_one]
    refine ⟨rfl, SFr_tr (SFr_x hA (by omega)) (SFr_x hA (by omega)), ?_, fun _ => RP_turn hA hR h1 h5 h6 (by omega)⟩
    exact kp_tr (kp_x hA (by decide) (Or.inl (by decide))) (kp_x hA (by decide) (Or.inl (by decide)))
theorem e_order (hA : Inj ad) (hS : Sh G ad) (hq : gP G (ad 70) 12 = some (ad 126)) (hL : LSh G ad 126) (h : ML ad M T tl p C O ro W) (hR : RP ad M P Y c) (ho : pg_o P ≤ 20) {j : Nat} (hj1 : ro j = 9) (hj : 200 ≤ kdT T tl j ∧ kdT T tl j < 233) : PostE ad j M (m_X12_errorOf G M (ad 70) (zn j)) (if pg_o P = 20 then 4 else 0) (fun M' => RP ad M' (pOrd (kdT T tl j) P) Y c) := by
  have hn := nT_le (T := T) (tl := tl)
  have qj := kdT_lt (T := T) (tl := tl) (q := j) (by omega)
  unfold m_X12_errorOf
  refine c_rf hq (c_rf (sh_m7 hS) (c_ix (by rw [sh_mn7 hS]; exact zn_in (by omega) (by decide)) ?_))
  rw [zn_nat (show j < 2147483648 by omega), h.1.2.2.2.2 j (by omega), hj1]
  refine c_f (by decide) (c_f (by decide) (c_f (by decide) (c_f (by decide) (c_f (by decide) (c_f (by decide) (c_f (by decide) (c_f (by decide) (c_t rfl ?_))))))))
  unfold m_X12_order
  refine c_cl (c_rf hq ?_)
  rw [hR.1.2.2.1]
  refine c_if (fun g => ?_) (fun g => ?_)
  · have g : pg_o P = 20 := (zn_lit (by omega) (by decide)).mp g
    rw [if_pos g]
    exact c_some (c_some ⟨rfl, SFr_rf, kp_rf, fun q => absurd q (by decide)⟩)
  · have g : ¬ pg_o P = 20 := fun q => g ((zn_lit (by omega) (by decide)).mpr q)
    rw [if_neg g]
    refine c_rf hq (c_rf (l13 hL) (c_rf hq (c_rf (sh_m4 hS) (c_ix (by rw [sh_mn4 hS]; exact zn_in (by omega) (by decide)) ?_))))
    rw [hR.1.2.2.1]
    refine c_ix (by rw [ln9 hL]; exact zn_in (by omega) (by decide)) (c_wI (c_rf hq (c_wI (c_some (c_some ?_)))))
    rw [zn_nat (show pg_o P < 2147483648 by omega), zn_nat (show j < 2147483648 by omega), (h.1.1.2.1 j (by omega)).1, wI_ne hA (show (126 : Nat) ≠ 126 + 9 ∨ _ from Or.inl (by decide)), hR.1.2.2.1, zn_one]
    have ek : kr (kdT T tl j) = kdT T tl j - 200 := by
      unfold kr
      rw [if_neg (by omega), if_neg (by omega), if_neg (by omega), if_neg (by omega), if_neg (by omega), if_neg (by omega), if_pos (by omega)]
    rw [ek]
    refine ⟨rfl, SFr_tr (SFr_x hA (by omega)) (SFr_x hA (by omega)), ?_, fun _ => RP_ord hA hR (by omega)⟩
    exact kp_tr (kp_x hA (by decide) (Or.inl (by decide))) (kp_x hA (by decide) (Or.inl (by decide)))
end SecE2
