/-! the reference's second pass: numbers of orders -/
section SecE4
variable {G : gS} {ad : Nat → Nat} {M : mS} {T : Nat → Nat} {tl p : Nat} {C : List Int32} {O : List Nat} {ro : Nat → Nat} {W : List (Nat × Nat)} {P : aP} {Y : aY} {c : Nat}
theorem e_from (hA : Inj ad) (hS : Sh G ad) (hq : gP G (ad 70) 12 = some (ad 126)) (hL : LSh G ad 126) (htl : tl ≤ 2000) (hT : ∀ k, k < tl → T k < 256) (h : ML ad M T tl p C O ro W) (hR : RP ad M P Y c) (ho : 1 ≤ pg_o P) (ho2 : pg_o P ≤ 20) {j : Nat} (hj1 : ro j = 10) (hj : kdT T tl j = 3) : PostE ad j M (m_X12_errorOf G M (ad 70) (zn j)) (if 0 ≤ numT T tl j ∧ numT T tl j ≤ 63 then 0 else 5) (fun M' => RP ad M' (pNums (numT T tl j) (pg_s P (pg_o P - 1)) P) Y c) := by
  have hn := nT_le (T := T) (tl := tl)
  have qj := kdT_lt (T := T) (tl := tl) (q := j) (by omega)
  unfold m_X12_errorOf
  refine c_rf hq (c_rf (sh_m7 hS) (c_ix (by rw [sh_mn7 hS]; exact zn_in (by omega) (by decide)) ?_))
  rw [zn_nat (show j < 2147483648 by omega), h.1.2.2.2.2 j (by omega), hj1]
  refine c_f (by decide) (c_f (by decide) (c_f (by decide) (c_f (by decide) (c_f (by decide) (c_f (by decide) (c_f (by decide) ?_))))))
  refine c_f (by decide) (c_f (by decide) (c_t rfl ?_))
  refine c_rf (l14 hL) ?_
  rw [w_num hS htl h.1 hj hT]
  refine c_cl (c_some ?_)
  rw [hR.1.2.2.1, show zn (pg_o P) - 1 = zn (pg_o P - 1) from zn_sub (b := 1) (by omega)]
  refine c_ix (by rw [ln10 hL]; exact zn_in (by omega) (by decide)) (c_wI ?_)
  rw [zn_nat (show pg_o P - 1 < 2147483648 by omega)]
  have fx : SFr ad M (wI M (ad (126 + 10)) (pg_o P - 1) (zn (numT T tl j))) := SFr_x hA (by omega)
  have f7 : mI (wI M (ad (126 + 10)) (pg_o P - 1) (zn (numT T tl j))) (ad 70) = mI M (ad 70) := by rw [mI_wI, if_neg (ad_ne hA (by decide))]
  have h2 := ML_S hA h fx (by rw [f7]; exact h.1.2.1.1) h.1.2.1.2.1
  rw [show m_X12_inRange G (wI M (ad (126 + 10)) (pg_o P - 1) (zn (numT T tl j))) (ad 70) (zn j) 0 63 = _ from t_range hS htl hT h2 (a := 0) (b := 63) hj (by decide) (by decide)]
  refine c_cl (c_some (c_some ⟨?_, fx, kp_x hA (by decide) (Or.inl (by decide)), fun _ => RP_one hA hR ho⟩))
  split <;> rfl
end SecE4
