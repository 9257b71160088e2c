/-! the reference's second pass: ants -/
section SecF
variable {G : gS} {ad : Nat → Nat} {M : mS} {T : Nat → Nat} {tl p : Nat} {C : List Int32} {O : List Nat} {ro : Nat → Nat} {W : List (Nat × Nat)} {P : aP} {Y : aY} {c : Nat}
theorem e_ant (hA : Inj ad) (hS : Sh G ad) (hq : gP G (ad 70) 12 = some (ad 126)) (htl : tl ≤ 2000) (hT : ∀ k, k < tl → T k < 256) (h : ML ad M T tl p C O ro W) (hR : RP ad M P Y c) (h6 : yd_n Y ≤ 6) (hro : ∀ j, ro j < 1000) {j : Nat} (hj1 : ro j = 2) (hk : ∀ i, i < j → ro i = 2 → kdT T tl i = 2) (hj : kdT T tl j = 2) {nm : Nat → Nat} (hN : NmR T tl ro 2 j nm (yd_n Y)) : PostE ad j M (m_X12_errorOf G M (ad 70) (zn j)) (if ixN nm (keyT T tl j) (yd_n Y) 0 = none then (if yd_n Y = 6 then 4 else 0) else 2) (fun M' => RP ad M' P (aBegin Y) 0) := by
  have hn := nT_le (T := T) (tl := tl)
  have qj := kdT_lt (T := T) (tl := tl) (q := j) (by omega)
  unfold m_X12_errorOf
  refine c_rf hq (c_rf (sh_m7 hS) (c_ix (by rw [sh_mn7 hS]; exact zn_in (by omega) (by decide)) ?_))
  rw [zn_nat (show j < 2147483648 by omega), h.1.2.2.2.2 j (by omega), hj1]
  refine c_f (by decide) (c_t rfl ?_)
  unfold m_X12_newAnt m_X12_newAnt_32
  refine c_cl (c_rf hq ?_)
  rw [hR.1.2.1, show (6 : Int32) = zn 6 from rfl, t_new hS htl hT h hro (by rw [hj1]; exact hk) hj (by rw [hj1]; exact hN) (by omega) (m := 6) (by decide)]
  refine c_cl (c_some (c_rf hq ?_))
  rw [hR.1.2.1]
  have fr : ∀ v : Int32, SFr ad M (wI (wI M (ad 126) 3 v) (ad 126) 4 0) ∧ kp ad j M (wI (wI M (ad 126) 3 v) (ad 126) 4 0) := fun v => ⟨SFr_tr (SFr_x hA (by omega)) (SFr_x hA (by omega)), kp_tr (kp_x hA (by decide) (Or.inl (by decide))) (kp_x hA (by decide) (Or.inl (by decide)))⟩
  by_cases g : ixN nm (keyT T tl j) (yd_n Y) 0 = none
  · rw [if_pos g, if_pos g]
    by_cases g2 : yd_n Y = 6
    · rw [if_pos g2, if_pos g2]
      exact c_f (by decide) (c_wI (c_rf hq (c_wI (c_some (c_some ⟨rfl, (fr _).1, (fr _).2, fun q => absurd q (by decide)⟩)))))
    · rw [if_neg g2, if_neg g2]
      refine c_t rfl (c_wI (c_rf hq (c_wI (c_some (c_some ⟨rfl, (fr _).1, (fr _).2, fun _ => ?_⟩)))))
      rw [zn_one]
      exact RP_ant hA hR (by omega)
  · rw [if_neg g, if_neg g]
    exact c_f (by decide) (c_wI (c_rf hq (c_wI (c_some (c_some ⟨rfl, (fr _).1, (fr _).2, fun q => absurd q (by decide)⟩)))))
/-- a name's number, kept for the rule of an ant -/
theorem e_ruled (hA : Inj ad) (hS : Sh G ad) (hq : gP G (ad 70) 12 = some (ad 126)) (hL : LSh G ad 126) (htl : tl ≤ 2000) (hT : ∀ k, k < tl → T k < 256) (h : ML ad M T tl p C O ro W) (hR : RP ad M P Y c) (h1 : 1 ≤ yd_n Y) (h6 : yd_n Y ≤ 6) (hro : ∀ j, ro j < 1000) {j : Nat} (hj1 : ro j = 4) (hk : ∀ i, i < j → ro i = 1 → kdT T tl i = 2) (hj : kdT T tl j = 2) {nm : Nat → Nat} {n : Nat} (hN : NmR T tl ro 1 j nm n) (hn6 : n < 1000) : PostE ad j M (m_X12_errorOf G M (ad 70) (zn j)) (if ixN nm (keyT T tl j) n 0 = none then 3 else 0) (fun M' => RP ad M' P (aAnt (yd_n Y - 1) (anRule (ixD (ixN nm (keyT T tl j) n 0)) (yd_a Y (yd_n Y - 1))) Y) c) := by
  have hn := nT_le (T := T) (tl := tl)
  have qj := kdT_lt (T := T) (tl := tl) (q := j) (by omega)
  unfold m_X12_errorOf
  refine c_rf hq (c_rf (sh_m7 hS) (c_ix (by rw [sh_mn7 hS]; exact zn_in (by omega) (by decide)) ?_))
  rw [zn_nat (show j < 2147483648 by omega), h.1.2.2.2.2 j (by omega), hj1]
  refine c_f (by decide) (c_f (by decide) (c_f (by decide) (c_t rfl ?_)))
  rw [hR.1.2.1, show zn (yd_n Y) - 1 = zn (yd_n Y - 1) from zn_sub (b := 1) (by omega)]
  refine c_rf (l6 hL) ?_
  unfold m_X12_named
  refine c_cl (c_clm (t_look hA hS htl hT h hro (r := 1) (by decide) hk hj hN hn6) ?_)
  rintro M1 e ⟨rfl, rfl⟩
  refine c_rf (sh_m8 hS) (c_ix (by rw [sh_mn8 hS]; exact zn_in (by omega) (by decide)) (c_ix (by rw [ln4 hL]; exact zn_in (by omega) (by decide)) (c_wI (c_some (c_some ?_)))))
  rw [zn_nat (show j < 2147483648 by omega), zn_nat (show yd_n Y - 1 < 2147483648 by omega), wI_eq]
  refine ⟨by split <;> rfl, SFr_tr (SFr_x hA (Or.inl rfl)) (SFr_x hA (by omega)), kp_tr (kp_x hA (by decide) (Or.inr rfl)) (kp_x hA (by decide) (Or.inl (by decide))), fun he => ?_⟩
  have g : ¬ ixN nm (keyT T tl j) n 0 = none := fun q => by rw [if_pos q] at he; exact absurd he (by decide)
  obtain ⟨i, hi⟩ : ∃ i, ixN nm (keyT T tl j) n 0 = some i := Option.ne_none_iff_exists'.mp g
  rw [hi]
  obtain ⟨a1, a2, a3, a4⟩ := hR.2.2.1.1 (yd_n Y - 1) (by omega)
  have kk : ∀ b, b ≠ 76 → b ≠ 126 + 4 → mI (wI (wI M (ad 76) j (ixV (some i))) (ad (126 + 4)) (yd_n Y - 1) (ixV (some i))) (ad b) = mI M (ad b) := fun b q1 q2 => by
    rw [mI_wI, if_neg (ad_ne hA q2), mI_wI, if_neg (ad_ne hA q1)]
  refine RP_an hR (by omega) (fun b hb => kk b (by omega) (by omega)) (fun b q1 q2 k q3 => ?_) ⟨?_, ?_, ?_, ?_⟩
  · rw [wI_ne hA (by omega), wI_ne hA (by omega)]
  · exact wI_eq
  · rw [kk 131 (by decide) (by decide)]; exact a2
  · rw [kk 132 (by decide) (by decide)]; exact a3
  · rw [kk 133 (by decide) (by decide)]; exact a4
/-- the side that an ant faces -/
theorem e_aside (hA : Inj ad) (hS : Sh G ad) (hq : gP G (ad 70) 12 = some (ad 126)) (hL : LSh G ad 126) (h : ML ad M T tl p C O ro W) (hR : RP ad M P Y c) (h1 : 1 ≤ yd_n Y) (h6 : yd_n Y ≤ 6) {j : Nat} (hj1 : ro j = 6) (hj : 209 ≤ kdT T tl j ∧ kdT T tl j ≤ 212) : PostE ad j M (m_X12_errorOf G M (ad 70) (zn j)) 0 (fun M' => RP ad M' P (aAnt (yd_n Y - 1) (anFace (kdT T tl j - 209) (yd_a Y (yd_n Y - 1))) Y) 0) := by
  have hn := nT_le (T := T) (tl := tl)
  have qj := kdT_lt (T := T) (tl := tl) (q := j) (by omega)
  unfold m_X12_errorOf
  refine c_rf hq (c_rf (sh_m7 hS) (c_ix (by rw [sh_mn7 hS]; exact zn_in (by omega) (by decide)) ?_))
  rw [zn_nat (show j < 2147483648 by omega), h.1.2.2.2.2 j (by omega), hj1]
  refine c_f (by decide) (c_f (by decide) (c_f (by decide) (c_f (by decide) (c_f (by decide) (c_t rfl ?_)))))
  rw [hR.1.2.1, show zn (yd_n Y) - 1 = zn (yd_n Y - 1) from zn_sub (b := 1) (by omega)]
  have ek : zn (kr (kdT T tl j)) - 9 = zn (kdT T tl j - 209) := by
    have : kr (kdT T tl j) = kdT T tl j - 200 := by
      unfold kr
      rw [if_neg (by omega), if_neg (by omega), if_neg (by omega), if_neg (by omega), if_neg (by omega), if_neg (by omega), if_pos (by omega)]
    rw [this, show zn (kdT T tl j - 200) - 9 = zn (kdT T tl j - 200 - 9) from zn_sub (b := 9) (by omega)]
    exact congrArg zn (show kdT T tl j - 200 - 9 = kdT T tl j - 209 by omega)
  refine c_rf (l9 hL) (c_rf (sh_m4 hS) (c_ix (by rw [sh_mn4 hS]; exact zn_in (by omega) (by decide)) (c_ix (by rw [ln7 hL]; exact zn_in (by omega) (by decide)) (c_wI (c_wI (c_some ?_))))))
  rw [zn_nat (show yd_n Y - 1 < 2147483648 by omega), (h.1.1.2.1 j (by omega)).1, ek]
  refine ⟨rfl, SFr_tr (SFr_x hA (by omega)) (SFr_x hA (by omega)), kp_tr (kp_x hA (by decide) (Or.inl (by decide))) (kp_x hA (by decide) (Or.inl (by decide))), fun _ => ?_⟩
  obtain ⟨a1, a2, a3, a4⟩ := hR.2.2.1.1 (yd_n Y - 1) (by omega)
  have kk : ∀ (t b : Nat), b ≠ 126 + 7 → mI (wI M (ad (126 + 7)) (yd_n Y - 1) (zn t)) (ad b) = mI M (ad b) := fun t b q2 => by
    rw [mI_wI, if_neg (ad_ne hA q2)]
  have hx : ∀ t : Nat, RP ad (wI M (ad (126 + 7)) (yd_n Y - 1) (zn t)) P (aAnt (yd_n Y - 1) (anFace t (yd_a Y (yd_n Y - 1))) Y) c := fun t => by
    refine RP_an hR (by omega) (fun b hb => kk t b (by omega)) (fun b q1 q2 k q3 => wI_ne hA (by omega)) ⟨?_, ?_, ?_, ?_⟩
    · rw [kk t 130 (by decide)]; exact a1
    · rw [kk t 131 (by decide)]; exact a2
    · rw [kk t 132 (by decide)]; exact a3
    · exact wI_eq
  exact RP_cnt hA (c' := 0) (hx _)
end SecF
