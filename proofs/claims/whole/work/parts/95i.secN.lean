/-! the reference's second pass: lines of rules and orders -/
section SecN
variable {G : gS} {ad : Nat → Nat} {M1 M : mS} {T : Nat → Nat} {tl : Nat} {C : List Int32} {O : List Nat} {ro : Nat → Nat} {W : List (Nat × Nat)} {p x f : Nat} {σ σ' : aS} {Q : mS → Int32 → Prop}
theorem sRul_0 {j : Nat} (h : pg_r (sgP σ) < 5) : sgP (sRul T tl j σ) = pRule (sgP σ) ∧ sgY (sRul T tl j σ) = sgY σ ∧ (sgN (sRul T tl j σ) = fun k => if k = pg_r (sgP σ) then keyT T tl j else sgN σ k) ∧ sgA (sRul T tl j σ) = sgA σ := by
  unfold sRul
  rw [if_pos h]
  exact ⟨rfl, rfl, rfl, rfl⟩
theorem st_turns (hE : EV G ad T tl ro) (hx : x ≤ nT T tl) (H1 : sgE σ' ≠ 0 → ∀ M', EF ad M1 M' (sgL σ') → Q M' (zn (sgE σ'))) : ∀ (m q f : Nat) (M : mS) (τ : aS), CL ad T tl C O ro W M1 M p q τ → p ≤ q → q + m ≤ x → sgE τ = 0 → 1 ≤ pg_r (sgP τ) → pg_r (sgP τ) ≤ 5 → (∀ r, r < pg_r (sgP τ) → pg_z (sgP τ) r ≤ 6) → kE (sTurns T tl m q τ) σ' → (∀ j, q ≤ j → j < q + m → ro j = 3 ∧ 201 ≤ kdT T tl j ∧ kdT T tl j ≤ 204) → (sgE (sTurns T tl m q τ) = 0 → ∀ M', CL ad T tl C O ro W M1 M' p (q + m) (sTurns T tl m q τ) → p_cl (m_X12_read_57 G (ad 70) f M' (zn x)) Q) → p_cl (m_X12_read_57 G (ad 70) (f + m) M (zn x)) Q := by
  intro m
  induction m with
  | zero => intro q f M τ h hp hq h0 h1 h5 h6 hk hr H0; exact H0 h0 M h
  | succ m ih =>
    intro q f M τ h hp hq h0 h1 h5 h6 hk hr H0
    show p_cl (m_X12_read_57 G (ad 70) (f + m + 1) M (zn x)) Q
    obtain ⟨r1, r2⟩ := hr q (Nat.le_refl _) (by omega)
    have hz := h6 (pg_r (sgP τ) - 1) (by omega)
    have hk2 : kE (sTurn T tl q τ) σ' := kE_tr (kE_sTurns m (q + 1) _) hk
    refine st_turn hE h hp (by omega) hx r1 r2 h1 h5 h6 (sTurn_e h0 hz) hk2 (fun e1 M2 _ h2 => ?_) H1
    obtain ⟨a1, _⟩ := if_1 (by decide) e1
    have eT : sTurn T tl q τ = sSetP (pTurn (kdT T tl q - 201) (sgP τ)) τ := if_pos (show pg_z (sgP τ) (pg_r (sgP τ) - 1) < 6 by omega)
    have h2 : CL ad T tl C O ro W M1 M2 p (q + 1) (sTurn T tl q τ) := by rw [eT]; exact h2
    refine ih (q + 1) f M2 (sTurn T tl q τ) h2 (by omega) (by omega) ((sTurn_e h0 hz).1.trans e1) (by rw [eT]; exact h1) (by rw [eT]; exact h5) (fun r hr => ?_) hk (fun j a b => hr j (by omega) (by omega)) (fun e3 M3 h3 => ?_)
    · rw [eT] at hr ⊢
      have hr : r < pg_r (sgP τ) := hr
      show (if r = pg_r (sgP τ) - 1 then pg_z (sgP τ) r + 1 else pg_z (sgP τ) r) ≤ 6
      by_cases g : r = pg_r (sgP τ) - 1
      · rw [if_pos g, g]; omega
      · rw [if_neg g]; exact h6 r hr
    · refine H0 e3 M3 ?_
      rw [show q + (m + 1) = q + 1 + m by omega]
      exact h3
theorem ln_rule (hE : EV G ad T tl ro) (h : CL ad T tl C O ro W M M p p σ) (h0 : sgE σ = 0) (hv : BB σ) {m : Nat} (hm : nTu (kdT T tl) 400 (p + 2) = m) (r0 : ro p = 0) (r1 : ro (p + 1) = 1) (r2 : ∀ j, p + 2 ≤ j → j < p + 2 + m → ro j = 3 ∧ 201 ≤ kdT T tl j ∧ kdT T tl j ≤ 204) (r3 : ro (p + 2 + m) = 0) (hp : p + 2 + m + 1 ≤ x) (hx : x ≤ nT T tl) (H0 : sgE (sRulL T tl p σ) = 0 → ∀ M', CL ad T tl C O ro W M M' p (p + 2 + m + 1) (sRulL T tl p σ) → p_cl (m_X12_read_57 G (ad 70) f M' (zn x)) Q) (H1 : sgE (sRulL T tl p σ) ≠ 0 → ∀ M', EF ad M M' (sgL (sRulL T tl p σ)) → Q M' (zn (sgE (sRulL T tl p σ)))) : p_cl (m_X12_read_57 G (ad 70) (f + 1 + m + 2) M (zn x)) Q := by
  have hr5 := hv.1
  have eF : sRulL T tl p σ = sTurns T tl m (p + 2) (sRul T tl (p + 1) σ) := by unfold sRulL; rw [hm]
  rw [eF] at H0 H1
  have K1 : kE (sRul T tl (p + 1) σ) (sTurns T tl m (p + 2) (sRul T tl (p + 1) σ)) := kE_sTurns _ _ _
  refine st_nil hE h (Nat.le_refl _) (by omega) hx r0 (e_0 h0) (kE_tr (kE_sRul (T := T) (tl := tl) (j := p + 1)) K1) (fun _ M2 _ h2 => ?_) H1
  refine st_rul hE h2 (by omega) (by omega) hx r1 hr5 (sRul_e h0 hr5) K1 (fun e1 M3 _ h3 => ?_) H1
  obtain ⟨a1, b1⟩ := if_2 (by decide) e1
  obtain ⟨a2, _⟩ := if_1 (by decide) b1
  have hE1 : sgE (sRul T tl (p + 1) σ) = 0 := (sRul_e h0 hr5).1.trans e1
  obtain ⟨c1, c2, c3, c4⟩ := sRul_0 (T := T) (tl := tl) (j := p + 1) (σ := σ) (by omega)
  have h3 : CL ad T tl C O ro W M M3 p (p + 2) (sRul T tl (p + 1) σ) := by
    unfold CL
    rw [c1, c2, c3, c4]; exact h3
  refine st_turns hE hx H1 m (p + 2) (f + 1) M3 _ h3 (by omega) (by omega) hE1 (by rw [c1]; show 1 ≤ pg_r (sgP σ) + 1; omega) (by rw [c1]; show pg_r (sgP σ) + 1 ≤ 5; omega) (fun r hr => ?_) kE_rf r2 (fun e4 M4 h4 => ?_)
  · rw [c1] at hr ⊢
    have hr : r < pg_r (sgP σ) + 1 := hr
    show (if r = pg_r (sgP σ) then 0 else pg_z (sgP σ) r) ≤ 6
    by_cases g : r = pg_r (sgP σ)
    · rw [if_pos g]; omega
    · rw [if_neg g]; exact hv.2.1 r (by omega)
  · exact st_nil hE h4 (by omega) (by omega) hx r3 (e_0 e4) kE_rf (fun _ M5 _ h5 => H0 e4 M5 h5) H1
theorem sOps_same : ∀ (L : List sO) (τ : aS), sgY (sOps T tl L τ) = sgY τ ∧ sgN (sOps T tl L τ) = sgN τ ∧ sgA (sOps T tl L τ) = sgA τ ∧ ∃ U, sgP (sOps T tl L τ) = (pg_r (sgP τ), pg_z (sgP τ), pg_t (sgP τ), pg_o (sgP τ), pg_k (sgP τ), pg_f (sgP τ), pg_s (sgP τ), U) := by
  intro L
  induction L with
  | nil => intro τ; exact ⟨rfl, rfl, rfl, pg_T (sgP τ), rfl⟩
  | cons o L ih =>
    intro τ
    obtain ⟨a, b, c, d⟩ := sOp_f (T := T) (tl := tl) o τ
    obtain ⟨i1, i2, i3, U, i4⟩ := ih (sOp T tl o τ)
    refine ⟨i1.trans a, i2.trans b, i3.trans c, U, i4.trans ?_⟩
    have : pg_r (sgP (sOp T tl o τ)) = pg_r (sgP τ) ∧ pg_z (sgP (sOp T tl o τ)) = pg_z (sgP τ) ∧ pg_t (sgP (sOp T tl o τ)) = pg_t (sgP τ) ∧ pg_o (sgP (sOp T tl o τ)) = pg_o (sgP τ) ∧ pg_k (sgP (sOp T tl o τ)) = pg_k (sgP τ) ∧ pg_f (sgP (sOp T tl o τ)) = pg_f (sgP τ) ∧ pg_s (sgP (sOp T tl o τ)) = pg_s (sgP τ) := by
      rw [d]
      unfold pOp
      split
      · exact ⟨rfl, rfl, rfl, rfl, rfl, rfl, rfl⟩
      · exact ⟨rfl, rfl, rfl, rfl, rfl, rfl, rfl⟩
    obtain ⟨j1, j2, j3, j4, j5, j6, j7⟩ := this
    rw [j1, j2, j3, j4, j5, j6, j7]
theorem CL_ops (hA : Inj ad) {L : List sO} {τ : aS} {q : Nat} (h : CI ad T tl C O ro W M1 M p q (sgP τ) (sgY τ) 0 (sgN τ) (sgA τ)) : CL ad T tl C O ro W M1 M p q (sOps T tl L τ) := by
  obtain ⟨i1, i2, i3, U, i4⟩ := sOps_same (T := T) (tl := tl) L τ
  unfold CL
  rw [i1, i2, i3, i4]
  exact h
/-- the test of an order, and the line's end -/
theorem ln_tail (hE : EV G ad T tl ro) (hx : x ≤ nT T tl) {q e : Nat} {L : List sO} {τ : aS} (h : CI ad T tl C O ro W M1 M p q (sgP τ) (sgY τ) 0 (sgN τ) (sgA τ)) (h6 : yd_n (sgY τ) ≤ 6) (hp : p ≤ q) (h0 : sgE τ = 0) (hi : aInc q e L) (hr : ∀ o ∈ L, isA o.1 = true → ro o.2 = 14 ∧ kdT T tl o.2 = 2) (hr0 : ∀ j, q ≤ j → j < e → (∀ o ∈ L, isA o.1 = true → o.2 ≠ j) → ro j = 0) (re : ro e = 0) (he : e + 1 ≤ x) (H0 : sgE (sOps T tl L τ) = 0 → ∀ M', (∀ o ∈ L, isA o.1 = true → mI M' (ad 76) o.2 = zn (ixD (antO T tl o.2 τ))) → CL ad T tl C O ro W M1 M' p (e + 1) (sOps T tl L τ) → p_cl (m_X12_read_57 G (ad 70) f M' (zn x)) Q) (H1 : sgE (sOps T tl L τ) ≠ 0 → ∀ M', EF ad M1 M' (sgL (sOps T tl L τ)) → Q M' (zn (sgE (sOps T tl L τ)))) : p_cl (m_X12_read_57 G (ad 70) (f + 1 + (e - q)) M (zn x)) Q := by
  have hqe := aInc_le hi
  refine st_test hE hx h6 (by omega) H1 L q (f + 1) M τ h hp hi h0 rfl rfl kE_rf hr hr0 (fun e1 M2 g2 m2 h2 => ?_)
  refine st_nil hE (CL_ops (L := L) hE.1 h2) (by omega) (by omega) hx re (e_0 e1) kE_rf (fun _ M3 g3 h3 => H0 e1 M3 (fun o ho hA => ?_) h3) H1
  have := aInc_in hi o ho hA
  rw [g3 o.2 (by omega)]
  exact m2 o ho hA
theorem sOrdr_0 (h : pg_o (sgP σ) < 20) : sOrdr T tl p σ = sSetP (pOrd (kdT T tl p) (sgP σ)) σ := if_pos h
theorem pOrd_at {k : Nat} {P : aP} : pg_f (pOrd k P) (pg_o (pOrd k P) - 1) = 0 ∧ pg_s (pOrd k P) (pg_o (pOrd k P) - 1) = 0 := ⟨if_pos rfl, if_pos rfl⟩
set_option maxHeartbeats 1600000 in
theorem ln_wash (hE : EV G ad T tl ro) (h : CL ad T tl C O ro W M M p p σ) (h0 : sgE σ = 0) (hv : BB σ) (k0 : kdT T tl p = 214) (k1 : kdT T tl (p + 1) = 3) (k3 : kdT T tl (p + 3) = 3) (r0 : ro p = 9) (r1 : ro (p + 1) = 10) (r2 : ro (p + 2) = 0) (r3 : ro (p + 3) = 11) (r4 : ro (p + 4) = 0) {e : Nat} {L : List sO} (hL : (pTest T tl (p + 5)).2.2 = L) (hi : aInc (p + 5) e L) (hr : ∀ o ∈ L, isA o.1 = true → ro o.2 = 14 ∧ kdT T tl o.2 = 2) (hr0 : ∀ j, p + 5 ≤ j → j < e → (∀ o ∈ L, isA o.1 = true → o.2 ≠ j) → ro j = 0) (re : ro e = 0) (hp : e + 1 ≤ x) (hx : x ≤ nT T tl) (H0 : sgE (sWash T tl p σ) = 0 → ∀ M', (∀ o ∈ L, isA o.1 = true → mI M' (ad 76) o.2 = zn (ixD (antO T tl o.2 σ))) → CL ad T tl C O ro W M M' p (e + 1) (sWash T tl p σ) → p_cl (m_X12_read_57 G (ad 70) f M' (zn x)) Q) (H1 : sgE (sWash T tl p σ) ≠ 0 → ∀ M', EF ad M M' (sgL (sWash T tl p σ)) → Q M' (zn (sgE (sWash T tl p σ)))) : p_cl (m_X12_read_57 G (ad 70) (f + 1 + (e - (p + 5)) + 5) M (zn x)) Q := by
  have hqe := aInc_le hi
  have ho := hv.2.2.1
  have K1 : kE (sOrdr T tl p σ) (sWash T tl p σ) := by
    unfold sWash
    refine kE_tr ?_ (kE_sOps _ _)
    unfold sNums
    refine kE_P ?_
    refine kE_tr ?_ kE_sRn
    exact kE_sRn
  have eF : sWash T tl p σ = sOps T tl L (sNums (nRn 0 63 (numT T tl (p + 1))) (nRn (nRn 0 63 (numT T tl (p + 1))) 63 (numT T tl (p + 3))) (sRn (nRn 0 63 (numT T tl (p + 1))) 63 (numT T tl (p + 3)) (tkP T tl (p + 3)) (sRn 0 63 (numT T tl (p + 1)) (tkP T tl (p + 1)) (sOrdr T tl p σ)))) := by rw [← hL]; rfl
  generalize sWash T tl p σ = σF at eF K1 H0 H1
  refine st_ord hE h (Nat.le_refl _) (by omega) hx r0 (by omega) ho (sOrdr_e h0 ho) K1 (fun e1 M2 _ h2 => ?_) H1
  obtain ⟨a1, _⟩ := if_1 (by decide) e1
  rw [sOrdr_0 (show pg_o (sgP σ) < 20 by omega)] at eF
  have h0' : sgE (sSetP (pOrd (kdT T tl p) (sgP σ)) σ) = 0 := h0
  have hY1 : sgY (sSetP (pOrd (kdT T tl p) (sgP σ)) σ) = sgY σ := rfl
  have hA1 : sgA (sSetP (pOrd (kdT T tl p) (sgP σ)) σ) = sgA σ := rfl
  have ho1 : 1 ≤ pg_o (sgP (sSetP (pOrd (kdT T tl p) (sgP σ)) σ)) := by show 1 ≤ pg_o (sgP σ) + 1; omega
  have ho2 : pg_o (sgP (sSetP (pOrd (kdT T tl p) (sgP σ)) σ)) ≤ 20 := by show pg_o (sgP σ) + 1 ≤ 20; omega
  have h2 : CL ad T tl C O ro W M M2 p (p + 1) (sSetP (pOrd (kdT T tl p) (sgP σ)) σ) := h2
  generalize sSetP (pOrd (kdT T tl p) (sgP σ)) σ = σ1 at eF h2 h0' hY1 hA1 ho1 ho2
  have K2 : kE (sRn 0 63 (numT T tl (p + 1)) (tkP T tl (p + 1)) σ1) σF := by
    rw [eF]
    refine kE_tr ?_ (kE_sOps _ _)
    unfold sNums
    refine kE_P ?_
    exact kE_sRn
  refine st_from hE h2 (by omega) (by omega) hx r1 k1 ho1 ho2 (sRn_e h0') K2 (fun e2 M3 _ h3 => ?_) H1
  have a2 := if_0 (by decide) e2
  rw [sRn_in a2, nRn_in a2] at eF
  have K3 : kE (sRn (numT T tl (p + 1)) 63 (numT T tl (p + 3)) (tkP T tl (p + 3)) σ1) σF := by
    rw [eF]
    refine kE_tr ?_ (kE_sOps _ _)
    unfold sNums
    exact kE_P kE_rf
  have K1' : kE σ1 σF := kE_tr kE_sRn K3
  refine st_nil hE h3 (by omega) (by omega) hx r2 (e_0 h0') K1' (fun _ M4 _ h4 => ?_) H1
  have hf : pg_f (pNums (numT T tl (p + 1)) (pg_s (sgP σ1) (pg_o (sgP σ1) - 1)) (sgP σ1)) (pg_o (pNums (numT T tl (p + 1)) (pg_s (sgP σ1) (pg_o (sgP σ1) - 1)) (sgP σ1)) - 1) = numT T tl (p + 1) := by
    rw [pNums_o]
    exact (pNums_at ho1).1
  refine st_end hE h4 (by omega) (by omega) hx r3 k3 (by rw [pNums_o]; exact ho1) (by rw [pNums_o]; exact ho2) (by rw [hf]; omega) (by rw [hf]; exact sRn_e h0') K3 (fun e4 M5 _ h5 => ?_) H1
  rw [hf] at e4 h5
  rw [pNums_two ho1] at h5
  have a4 := if_0 (by decide) e4
  rw [sRn_in a4, nRn_in a4] at eF
  refine st_nil hE h5 (by omega) (by omega) hx r4 (e_0 h0') K1' (fun _ M6 _ h6 => ?_) H1
  have h6 : CI ad T tl C O ro W M M6 p (p + 5) (sgP (sNums (numT T tl (p + 1)) (numT T tl (p + 3)) σ1)) (sgY (sNums (numT T tl (p + 1)) (numT T tl (p + 3)) σ1)) 0 (sgN (sNums (numT T tl (p + 1)) (numT T tl (p + 3)) σ1)) (sgA (sNums (numT T tl (p + 1)) (numT T tl (p + 3)) σ1)) := h6
  rw [eF] at H0 H1
  refine ln_tail hE hx h6 (by show yd_n (sgY σ1) ≤ 6; rw [hY1]; exact hv.2.2.2) (by omega) h0' hi hr hr0 re hp (fun e7 M7 m7 h7 => H0 e7 M7 (fun o ho hA => ?_) h7) H1
  rw [m7 o ho hA, antO_c (σ := σ) (σ' := sNums (numT T tl (p + 1)) (numT T tl (p + 3)) σ1) hY1 hA1]
set_option maxHeartbeats 1600000 in
theorem ln_face (hE : EV G ad T tl ro) (h : CL ad T tl C O ro W M M p p σ) (h0 : sgE σ = 0) (hv : BB σ) (k0 : kdT T tl p = 216) (k1 : kdT T tl (p + 1) = 2) (k2 : 209 ≤ kdT T tl (p + 2) ∧ kdT T tl (p + 2) ≤ 212) (r0 : ro p = 9) (r1 : ro (p + 1) = 12) (r2 : ro (p + 2) = 13) (r3 : ro (p + 3) = 0) {e : Nat} {L : List sO} (hL : (pTest T tl (p + 4)).2.2 = L) (hi : aInc (p + 4) e L) (hr : ∀ o ∈ L, isA o.1 = true → ro o.2 = 14 ∧ kdT T tl o.2 = 2) (hr0 : ∀ j, p + 4 ≤ j → j < e → (∀ o ∈ L, isA o.1 = true → o.2 ≠ j) → ro j = 0) (re : ro e = 0) (hp : e + 1 ≤ x) (hx : x ≤ nT T tl) (H0 : sgE (sFace T tl p σ) = 0 → ∀ M', (∀ o ∈ L, isA o.1 = true → mI M' (ad 76) o.2 = zn (ixD (antO T tl o.2 σ))) → CL ad T tl C O ro W M M' p (e + 1) (sFace T tl p σ) → p_cl (m_X12_read_57 G (ad 70) f M' (zn x)) Q) (H1 : sgE (sFace T tl p σ) ≠ 0 → ∀ M', EF ad M M' (sgL (sFace T tl p σ)) → Q M' (zn (sgE (sFace T tl p σ)))) : p_cl (m_X12_read_57 G (ad 70) (f + 1 + (e - (p + 4)) + 4) M (zn x)) Q := by
  have hqe := aInc_le hi
  have ho := hv.2.2.1
  have K1 : kE (sOrdr T tl p σ) (sFace T tl p σ) := by
    unfold sFace
    refine kE_tr ?_ (kE_sOps _ _)
    unfold sNums
    refine kE_P ?_
    exact kE_sLk
  have eF : sFace T tl p σ = sOps T tl L (sNums (ixD (antO T tl (p + 1) (sOrdr T tl p σ))) (kdT T tl (p + 2) - 209) (sLk (antO T tl (p + 1) (sOrdr T tl p σ)) (tkP T tl (p + 1)) (sOrdr T tl p σ))) := by rw [← hL]; rfl
  generalize sFace T tl p σ = σF at eF K1 H0 H1
  refine st_ord hE h (Nat.le_refl _) (by omega) hx r0 (by omega) ho (sOrdr_e h0 ho) K1 (fun e1 M2 _ h2 => ?_) H1
  obtain ⟨a1, _⟩ := if_1 (by decide) e1
  rw [sOrdr_0 (show pg_o (sgP σ) < 20 by omega)] at eF
  have h0' : sgE (sSetP (pOrd (kdT T tl p) (sgP σ)) σ) = 0 := h0
  have hY1 : sgY (sSetP (pOrd (kdT T tl p) (sgP σ)) σ) = sgY σ := rfl
  have hA1 : sgA (sSetP (pOrd (kdT T tl p) (sgP σ)) σ) = sgA σ := rfl
  have ho1 : 1 ≤ pg_o (sgP (sSetP (pOrd (kdT T tl p) (sgP σ)) σ)) := by show 1 ≤ pg_o (sgP σ) + 1; omega
  have ho2 : pg_o (sgP (sSetP (pOrd (kdT T tl p) (sgP σ)) σ)) ≤ 20 := by show pg_o (sgP σ) + 1 ≤ 20; omega
  have h2 : CL ad T tl C O ro W M M2 p (p + 1) (sSetP (pOrd (kdT T tl p) (sgP σ)) σ) := h2
  generalize sSetP (pOrd (kdT T tl p) (sgP σ)) σ = σ1 at eF h2 h0' hY1 hA1 ho1 ho2
  have h16 : yd_n (sgY σ1) ≤ 6 := by rw [hY1]; exact hv.2.2.2
  have K2 : kE (sLk (antO T tl (p + 1) σ1) (tkP T tl (p + 1)) σ1) σF := by
    rw [eF]
    refine kE_tr ?_ (kE_sOps _ _)
    unfold sNums
    exact kE_P kE_rf
  refine st_who hE h2 (by omega) (by omega) hx r1 k1 ho1 ho2 h16 (sLk_e h0') K2 (fun e2 M3 _ h3 => ?_) H1
  obtain ⟨a2, _⟩ := if_1 (by decide) e2
  have hL1 : sLk (antO T tl (p + 1) σ1) (tkP T tl (p + 1)) σ1 = σ1 := if_neg a2
  rw [hL1] at eF K2
  have hf : pg_f (pNums (ixD (antO T tl (p + 1) σ1)) (pg_s (sgP σ1) (pg_o (sgP σ1) - 1)) (sgP σ1)) (pg_o (pNums (ixD (antO T tl (p + 1) σ1)) (pg_s (sgP σ1) (pg_o (sgP σ1) - 1)) (sgP σ1)) - 1) = ixD (antO T tl (p + 1) σ1) := by
    rw [pNums_o]
    exact (pNums_at ho1).1
  have h3 : CI ad T tl C O ro W M M3 p (p + 2) (pNums (ixD (antO T tl (p + 1) σ1)) (pg_s (sgP σ1) (pg_o (sgP σ1) - 1)) (sgP σ1)) (sgY σ1) 0 (sgN σ1) (sgA σ1) := h3
  refine st_side hE h3 (by omega) (by omega) hx r2 k2 (by rw [pNums_o]; exact ho1) (by rw [pNums_o]; exact ho2) (e_0 h0') K2 (fun _ M5 _ h5 => ?_) H1
  rw [hf, pNums_two ho1] at h5
  refine st_nil hE h5 (by omega) (by omega) hx r3 (e_0 h0') K2 (fun _ M6 _ h6 => ?_) H1
  have h6 : CI ad T tl C O ro W M M6 p (p + 4) (sgP (sNums (ixD (antO T tl (p + 1) σ1)) (kdT T tl (p + 2) - 209) σ1)) (sgY (sNums (ixD (antO T tl (p + 1) σ1)) (kdT T tl (p + 2) - 209) σ1)) 0 (sgN (sNums (ixD (antO T tl (p + 1) σ1)) (kdT T tl (p + 2) - 209) σ1)) (sgA (sNums (ixD (antO T tl (p + 1) σ1)) (kdT T tl (p + 2) - 209) σ1)) := h6
  rw [eF] at H0 H1
  refine ln_tail hE hx h6 h16 (by omega) h0' hi hr hr0 re hp (fun e7 M7 m7 h7 => H0 e7 M7 (fun o ho hA => ?_) h7) H1
  rw [m7 o ho hA, antO_c (σ := σ) (σ' := sNums (ixD (antO T tl (p + 1) σ1)) (kdT T tl (p + 2) - 209) σ1) hY1 hA1]
set_option maxHeartbeats 1600000 in
theorem ln_halt (hE : EV G ad T tl ro) (h : CL ad T tl C O ro W M M p p σ) (h0 : sgE σ = 0) (hv : BB σ) (k0 : 217 ≤ kdT T tl p ∧ kdT T tl p ≤ 218) (k1 : kdT T tl (p + 1) = 2) (r0 : ro p = 9) (r1 : ro (p + 1) = 12) (r2 : ro (p + 2) = 0) {e : Nat} {L : List sO} (hL : (pTest T tl (p + 3)).2.2 = L) (hi : aInc (p + 3) e L) (hr : ∀ o ∈ L, isA o.1 = true → ro o.2 = 14 ∧ kdT T tl o.2 = 2) (hr0 : ∀ j, p + 3 ≤ j → j < e → (∀ o ∈ L, isA o.1 = true → o.2 ≠ j) → ro j = 0) (re : ro e = 0) (hp : e + 1 ≤ x) (hx : x ≤ nT T tl) (H0 : sgE (sHalt T tl p σ) = 0 → ∀ M', (∀ o ∈ L, isA o.1 = true → mI M' (ad 76) o.2 = zn (ixD (antO T tl o.2 σ))) → CL ad T tl C O ro W M M' p (e + 1) (sHalt T tl p σ) → p_cl (m_X12_read_57 G (ad 70) f M' (zn x)) Q) (H1 : sgE (sHalt T tl p σ) ≠ 0 → ∀ M', EF ad M M' (sgL (sHalt T tl p σ)) → Q M' (zn (sgE (sHalt T tl p σ)))) : p_cl (m_X12_read_57 G (ad 70) (f + 1 + (e - (p + 3)) + 3) M (zn x)) Q := by
  have hqe := aInc_le hi
  have ho := hv.2.2.1
  have K1 : kE (sOrdr T tl p σ) (sHalt T tl p σ) := by
    unfold sHalt
    refine kE_tr ?_ (kE_sOps _ _)
    unfold sNums
    refine kE_P ?_
    exact kE_sLk
  have eF : sHalt T tl p σ = sOps T tl L (sNums (ixD (antO T tl (p + 1) (sOrdr T tl p σ))) 0 (sLk (antO T tl (p + 1) (sOrdr T tl p σ)) (tkP T tl (p + 1)) (sOrdr T tl p σ))) := by rw [← hL]; rfl
  generalize sHalt T tl p σ = σF at eF K1 H0 H1
  refine st_ord hE h (Nat.le_refl _) (by omega) hx r0 (by omega) ho (sOrdr_e h0 ho) K1 (fun e1 M2 _ h2 => ?_) H1
  obtain ⟨a1, _⟩ := if_1 (by decide) e1
  rw [sOrdr_0 (show pg_o (sgP σ) < 20 by omega)] at eF
  have h0' : sgE (sSetP (pOrd (kdT T tl p) (sgP σ)) σ) = 0 := h0
  have hY1 : sgY (sSetP (pOrd (kdT T tl p) (sgP σ)) σ) = sgY σ := rfl
  have hA1 : sgA (sSetP (pOrd (kdT T tl p) (sgP σ)) σ) = sgA σ := rfl
  have hs1 : pg_s (sgP (sSetP (pOrd (kdT T tl p) (sgP σ)) σ)) (pg_o (sgP (sSetP (pOrd (kdT T tl p) (sgP σ)) σ)) - 1) = 0 := if_pos rfl
  have ho1 : 1 ≤ pg_o (sgP (sSetP (pOrd (kdT T tl p) (sgP σ)) σ)) := by show 1 ≤ pg_o (sgP σ) + 1; omega
  have ho2 : pg_o (sgP (sSetP (pOrd (kdT T tl p) (sgP σ)) σ)) ≤ 20 := by show pg_o (sgP σ) + 1 ≤ 20; omega
  have h2 : CL ad T tl C O ro W M M2 p (p + 1) (sSetP (pOrd (kdT T tl p) (sgP σ)) σ) := h2
  generalize sSetP (pOrd (kdT T tl p) (sgP σ)) σ = σ1 at eF h2 h0' hY1 hA1 hs1 ho1 ho2
  have h16 : yd_n (sgY σ1) ≤ 6 := by rw [hY1]; exact hv.2.2.2
  have K2 : kE (sLk (antO T tl (p + 1) σ1) (tkP T tl (p + 1)) σ1) σF := by
    rw [eF]
    refine kE_tr ?_ (kE_sOps _ _)
    unfold sNums
    exact kE_P kE_rf
  refine st_who hE h2 (by omega) (by omega) hx r1 k1 ho1 ho2 h16 (sLk_e h0') K2 (fun e2 M3 _ h3 => ?_) H1
  obtain ⟨a2, _⟩ := if_1 (by decide) e2
  have hL1 : sLk (antO T tl (p + 1) σ1) (tkP T tl (p + 1)) σ1 = σ1 := if_neg a2
  rw [hL1] at eF K2
  rw [hs1] at h3
  refine st_nil hE h3 (by omega) (by omega) hx r2 (e_0 h0') K2 (fun _ M6 _ h6 => ?_) H1
  have h6 : CI ad T tl C O ro W M M6 p (p + 3) (sgP (sNums (ixD (antO T tl (p + 1) σ1)) 0 σ1)) (sgY (sNums (ixD (antO T tl (p + 1) σ1)) 0 σ1)) 0 (sgN (sNums (ixD (antO T tl (p + 1) σ1)) 0 σ1)) (sgA (sNums (ixD (antO T tl (p + 1) σ1)) 0 σ1)) := h6
  rw [eF] at H0 H1
  refine ln_tail hE hx h6 h16 (by omega) h0' hi hr hr0 re hp (fun e7 M7 m7 h7 => H0 e7 M7 (fun o ho hA => ?_) h7) H1
  rw [m7 o ho hA, antO_c (σ := σ) (σ' := sNums (ixD (antO T tl (p + 1) σ1)) 0 σ1) hY1 hA1]
end SecN
