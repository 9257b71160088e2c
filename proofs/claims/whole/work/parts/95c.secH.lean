/-! the reference's second pass: the ant of an order; a token of no role -/
section SecH
variable {G : gS} {ad : Nat → Nat} {M : mS} {T : Nat → Nat} {tl p : Nat} {C : List Int32} {O : List Nat} {ro : Nat → Nat} {W : List (Nat × Nat)} {P : aP} {Y : aY} {c : Nat}
theorem e_who (hA : Inj ad) (hS : Sh G ad) (hq : gP G (ad 70) 12 = some (ad 126)) (hL : LSh G ad 126) (htl : tl ≤ 2000) (hT : ∀ k, k < tl → T k < 256) (h : ML ad M T tl p C O ro W) (hR : RP ad M P Y c) (ho : 1 ≤ pg_o P) (ho2 : pg_o P ≤ 20) (hro : ∀ j, ro j < 1000) {j : Nat} (hj1 : ro j = 12) (hk : ∀ i, i < j → ro i = 2 → kdT T tl i = 2) (hj : kdT T tl j = 2) {nm : Nat → Nat} {n : Nat} (hN : NmR T tl ro 2 j nm n) (hn6 : n < 1000) : PostE ad j M (m_X12_errorOf G M (ad 70) (zn j)) (if ixN nm (keyT T tl j) n 0 = none then 3 else 0) (fun M' => RP ad M' (pNums (ixD (ixN nm (keyT T tl j) n 0)) (pg_s P (pg_o P - 1)) P) Y c) := by
  have hn := nT_le (T := T) (tl := tl)
  have qj := kdT_lt (T := T) (tl := tl) (q := j) (by omega)
  unfold m_X12_errorOf
  refine c_rf hq (c_rf (sh_m7 hS) (c_ix (by rw [sh_mn7 hS]; exact zn_in (by omega) (by decide)) ?_))
  rw [zn_nat (show j < 2147483648 by omega), h.1.2.2.2.2 j (by omega), hj1]
  refine c_f (by decide) (c_f (by decide) (c_f (by decide) (c_f (by decide) (c_f (by decide) (c_f (by decide) (c_f (by decide) ?_))))))
  refine c_f (by decide) (c_f (by decide) (c_f (by decide) (c_f (by decide) (c_t rfl ?_))))
  rw [hR.1.2.2.1, show zn (pg_o P) - 1 = zn (pg_o P - 1) from zn_sub (b := 1) (by omega)]
  refine c_rf (l14 hL) ?_
  unfold m_X12_named
  refine c_cl (c_clm (t_look hA hS htl hT h hro (r := 2) (by decide) hk hj hN hn6) ?_)
  rintro M1 e ⟨rfl, rfl⟩
  refine c_rf (sh_m8 hS) (c_ix (by rw [sh_mn8 hS]; exact zn_in (by omega) (by decide)) (c_ix (by rw [ln10 hL]; exact zn_in (by omega) (by decide)) (c_wI (c_some (c_some ?_)))))
  rw [zn_nat (show j < 2147483648 by omega), zn_nat (show pg_o P - 1 < 2147483648 by omega), wI_eq]
  refine ⟨by split <;> rfl, SFr_tr (SFr_x hA (Or.inl rfl)) (SFr_x hA (by omega)), kp_tr (kp_x hA (by decide) (Or.inr rfl)) (kp_x hA (by decide) (Or.inl (by decide))), fun he => ?_⟩
  have g : ¬ ixN nm (keyT T tl j) n 0 = none := fun q => by rw [if_pos q] at he; exact absurd he (by decide)
  obtain ⟨i, hi⟩ : ∃ i, ixN nm (keyT T tl j) n 0 = some i := Option.ne_none_iff_exists'.mp g
  rw [hi]
  exact RP_one hA (RP_76 hA hR) ho
theorem e_nil (hS : Sh G ad) (hq : gP G (ad 70) 12 = some (ad 126)) (h : ML ad M T tl p C O ro W) {j : Nat} (hj : j ≤ nT T tl) (h0 : ro j = 0) {K : mS → Prop} (hK : K M) : PostE ad j M (m_X12_errorOf G M (ad 70) (zn j)) 0 K := by
  have hn := nT_le (T := T) (tl := tl)
  rw [PostE, e_none hS hq (r := 0) (by omega) (by rw [h.1.2.2.2.2 j hj, h0]) (Or.inl rfl)]
  exact c_some ⟨rfl, SFr_rf, kp_rf, fun _ => hK⟩
theorem RP_70 (hA : Inj ad) (h : RP ad M P Y c) {j : Nat} {v : Int32} : RP ad (wI M (ad 70) j v) P Y c := RP_keep h (fun b _ h1 _ => by rw [mI_wI, if_neg (ad_ne hA (by omega))])
end SecH
