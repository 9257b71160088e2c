/-! the reference's second pass: an ant in a test, an order's side -/
section SecE3
variable {G : gS} {ad : Nat → Nat} {M : mS} {T : Nat → Nat} {tl p : Nat} {C : List Int32} {O : List Nat} {ro : Nat → Nat} {W : List (Nat × Nat)} {P : aP} {Y : aY} {c : Nat}
theorem RP_76 (hA : Inj ad) (h : RP ad M P Y c) {j : Nat} {v : Int32} : RP ad (wI M (ad 76) j v) P Y c := RP_keep h (fun b _ h1 _ => by rw [mI_wI, if_neg (ad_ne hA (by omega))])
theorem e_look (hA : Inj ad) (hS : Sh G ad) (hq : gP G (ad 70) 12 = some (ad 126)) (htl : tl ≤ 2000) (hT : ∀ k, k < tl → T k < 256) (h : ML ad M T tl p C O ro W) (hR : RP ad M P Y c) (hro : ∀ j, ro j < 1000) {j : Nat} (hj1 : ro j = 14) (hk : ∀ i, i < j → ro i = 2 → kdT T tl i = 2) (hj : kdT T tl j = 2) {nm : Nat → Nat} {n : Nat} (hN : NmR T tl ro 2 j nm n) (hn6 : n < 1000) : PostE ad j M (m_X12_errorOf G M (ad 70) (zn j)) (if ixN nm (keyT T tl j) n 0 = none then 3 else 0) (fun M' => M' = wI M (ad 76) j (ixV (ixN nm (keyT T tl j) n 0)) ∧ RP ad M' P Y c) := by
  have hn := nT_le (T := T) (tl := tl)
  have qj := kdT_lt (T := T) (tl := tl) (q := j) (by omega)
  unfold m_X12_errorOf
  refine c_rf hq (c_rf (sh_m7 hS) (c_ix (by rw [sh_mn7 hS]; exact zn_in (by omega) (by decide)) ?_))
  rw [zn_nat (show j < 2147483648 by omega), h.1.2.2.2.2 j (by omega), hj1]
  refine c_f (by decide) (c_f (by decide) (c_f (by decide) (c_f (by decide) (c_f (by decide) (c_f (by decide) (c_f (by decide) ?_))))))
  refine c_f (by decide) (c_f (by decide) (c_f (by decide) (c_f (by decide) (c_f (by decide) (c_f (by decide) (c_t rfl ?_))))))
  refine c_clm (t_look hA hS htl hT h hro (r := 2) (by decide) hk hj hN hn6) ?_
  rintro M1 e ⟨rfl, rfl⟩
  refine c_some ⟨?_, SFr_x hA (Or.inl rfl), kp_x hA (by decide) (Or.inr rfl), fun _ => ⟨rfl, RP_76 hA hR⟩⟩
  split <;> rfl
theorem e_side (hA : Inj ad) (hS : Sh G ad) (hq : gP G (ad 70) 12 = some (ad 126)) (hL : LSh G ad 126) (h : ML ad M T tl p C O ro W) (hR : RP ad M P Y c) (ho : 1 ≤ pg_o P) (ho2 : pg_o P ≤ 20) {j : Nat} (hj1 : ro j = 13) (hj : 209 ≤ kdT T tl j ∧ kdT T tl j ≤ 212) : PostE ad j M (m_X12_errorOf G M (ad 70) (zn j)) 0 (fun M' => RP ad M' (pNums (pg_f P (pg_o P - 1)) (kdT T tl j - 209) P) Y c) := by
  have hn := nT_le (T := T) (tl := tl)
  have qj := kdT_lt (T := T) (tl := tl) (q := j) (by omega)
  unfold m_X12_errorOf
  refine c_rf hq (c_rf (sh_m7 hS) (c_ix (by rw [sh_mn7 hS]; exact zn_in (by omega) (by decide)) ?_))
  rw [zn_nat (show j < 2147483648 by omega), h.1.2.2.2.2 j (by omega), hj1]
  refine c_f (by decide) (c_f (by decide) (c_f (by decide) (c_f (by decide) (c_f (by decide) (c_f (by decide) (c_f (by decide) ?_))))))
  refine c_f (by decide) (c_f (by decide) (c_f (by decide) (c_f (by decide) (c_f (by decide) (c_t rfl ?_)))))
  rw [hR.1.2.2.1, show zn (pg_o P) - 1 = zn (pg_o P - 1) from zn_sub (b := 1) (by omega)]
  have ek : zn (kr (kdT T tl j)) - 9 = zn (kdT T tl j - 209) := by
    have : kr (kdT T tl j) = kdT T tl j - 200 := by
      unfold kr
      rw [if_neg (by omega), if_neg (by omega), if_neg (by omega), if_neg (by omega), if_neg (by omega), if_neg (by omega), if_pos (by omega)]
    rw [this, show zn (kdT T tl j - 200) - 9 = zn (kdT T tl j - 200 - 9) from zn_sub (b := 9) (by omega)]
    exact congrArg zn (show kdT T tl j - 200 - 9 = kdT T tl j - 209 by omega)
  refine c_rf (l15 hL) (c_rf (sh_m4 hS) (c_ix (by rw [sh_mn4 hS]; exact zn_in (by omega) (by decide)) (c_ix (by rw [ln11 hL]; exact zn_in (by omega) (by decide)) (c_wI (c_some ?_)))))
  rw [zn_nat (show pg_o P - 1 < 2147483648 by omega), (h.1.1.2.1 j (by omega)).1, ek]
  refine ⟨rfl, SFr_x hA (by omega), kp_x hA (by decide) (Or.inl (by decide)), fun _ => RP_other hA hR ho⟩
end SecE3
