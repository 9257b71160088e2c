/-! the reference's second pass: a line -/
section LineR
variable {G : gS} {ad : Nat → Nat} {M : mS} {T : Nat → Nat} {tl : Nat} {C : List Int32} {O : List Nat} {ro r : Nat → Nat} {W : List (Nat × Nat)} {p x f : Nat} {σ : aS} {Q : mS → Int32 → Prop}
/-- an order's test, and its end -/
theorem tail_ok {l : List (Nat → Bool)} (hp : p < nT T tl) (hl : ∀ q ∈ l, ∀ k, q k = true → 2 ≤ k) (h : (pThen T tl (pPre (kdT T tl) l (p + 1))).1 = true) {e : Nat} (he : (pThen T tl (pPre (kdT T tl) l (p + 1))).2 = e) : aInc (p + 1 + l.length) e (pTest T tl (p + 1 + l.length)).2.2 ∧ (∀ o ∈ (pTest T tl (p + 1 + l.length)).2.2, isA o.1 = true → kdT T tl o.2 = 2) := by
  obtain ⟨e1, e2, e3⟩ := pThen_end h
  have h4 := pPre_in l (p + 1) hl (show p + 1 ≤ nT T tl from hp)
  rw [pPre_end l _ e3] at h4
  have hr := pz_rok (T := T) (tl := tl) (f := 100) (t := 3) (d := 0) h4
  have h5 := hr.2.2 e2
  rw [← he, e1]
  exact ⟨h5.2.2, fun o ho hA => (pz_kO (kd := kdT T tl) 100 3 0 (p + 1 + l.length) o ho).1 hA⟩
theorem line_ok (hl : (pLnE T tl p).1 = true) : (pLn T tl p).1 = true ∧ kdT T tl (pLn T tl p).2 = 59 ∧ (pLnE T tl p).2 = (pLn T tl p).2 + 1 := by
  unfold pLnE at hl ⊢
  split at hl
  · next g =>
    rw [if_pos g]
    split at hl
    · next g2 => rw [if_pos g2]; exact ⟨g, g2, rfl⟩
    · exact absurd (show false = true from hl) (by decide)
  · exact absurd (show false = true from hl) (by decide)
theorem not_isO {k : Nat} (h : k = 200 ∨ k = 205 ∨ k = 213) : ¬ isO k = true := fun g => by
  have := isO_t.mp g
  omega
theorem rd_line (hE : EV G ad T tl ro) (h : CL ad T tl C O ro W M M p p σ) (h0 : sgE σ = 0) (hv : BB σ) (hr : ∀ j, p ≤ j → r j = 0) (hl : (pLnE T tl p).1 = true) {e : Nat} (he : (pLnE T tl p).2 = e) (hro : ∀ j, p ≤ j → j < e → ro j = lnR T tl p r j) (hx1 : e ≤ x) (hx : x ≤ nT T tl) (hpx : p < x) (H0 : sgE (sLn T tl p σ) = 0 → ∀ M', (isO (kdT T tl p) = true → ∀ o ∈ lnL T tl p, isA o.1 = true → mI M' (ad 76) o.2 = zn (ixD (antO T tl o.2 σ))) → CL ad T tl C O ro W M M' p e (sLn T tl p σ) → p_cl (m_X12_read_57 G (ad 70) f M' (zn x)) Q) (H1 : sgE (sLn T tl p σ) ≠ 0 → ∀ M', EF ad M M' (sgL (sLn T tl p σ)) → Q M' (zn (sgE (sLn T tl p σ)))) : p_cl (m_X12_read_57 G (ad 70) (f + (e - p)) M (zn x)) Q := by
  obtain ⟨g1, g2, g3⟩ := line_ok hl
  rw [g3] at he
  by_cases k0 : kdT T tl p = 200
  · have eL : sLn T tl p σ = sRulL T tl p σ := if_pos k0
    have eP : pLn T tl p = pRul (kdT T tl) p := if_pos k0
    have eR : lnR T tl p r = roRul p (nTu (kdT T tl) 400 (p + 2)) r := by unfold lnR; rw [if_neg (not_isO (Or.inl k0)), if_pos k0]
    rw [eP] at g1 he
    rw [eR] at hro
    rw [eL] at H0 H1
    unfold pRul at g1 he
    by_cases k1 : kdT T tl (p + 1) = 2
    · rw [if_pos k1] at g1 he
      have he : p + 2 + nTu (kdT T tl) 400 (p + 2) + 1 = e := he
      have hR : ∀ j, p ≤ j → j < e → ro j = if j = p + 1 then 1 else if p + 2 ≤ j ∧ j < p + 2 + nTu (kdT T tl) 400 (p + 2) then 3 else 0 := fun j a b => by
        rw [hro j a b]
        unfold roRul
        rw [hr j a]
      rw [show f + (e - p) = f + 1 + nTu (kdT T tl) 400 (p + 2) + 2 by omega]
      rw [← he] at H0
      refine ln_rule hE h h0 hv rfl ?_ ?_ (fun j a b => ⟨?_, ?_⟩) ?_ (by omega) hx (fun e0 M' hc => H0 e0 M' (fun g => absurd g (not_isO (Or.inl k0))) hc) H1
      · rw [hR p (Nat.le_refl _) (by omega), if_neg (by omega), if_neg (by omega)]
      · rw [hR (p + 1) (by omega) (by omega), if_pos rfl]
      · rw [hR j (by omega) (by omega), if_neg (by omega), if_pos (by omega)]
      · exact qTurn_t.mp (nTu_in 400 (p + 2) j a b)
      · rw [hR _ (by omega) (by omega), if_neg (by omega), if_neg (by omega)]
    · rw [if_neg k1] at g1
      exact absurd (show false = true from g1) (by decide)
  by_cases k5 : kdT T tl p = 205
  · have eL : sLn T tl p σ = sAntL T tl p σ := by unfold sLn; rw [if_neg k0, if_pos k5]
    have eP : pLn T tl p = pPre (kdT T tl) antQ (p + 1) := by unfold pLn; rw [if_neg k0, if_pos k5]
    have eR : lnR T tl p r = roAnt p r := by unfold lnR; rw [if_neg (not_isO (Or.inr (Or.inl k5))), if_neg k0, if_pos k5]
    rw [eP] at g1 he
    rw [eR] at hro
    rw [eL] at H0 H1
    rw [pPre_end _ _ g1] at he
    have he : p + 1 + 8 + 1 = e := he
    obtain ⟨q1, g1⟩ := pPre_t g1
    obtain ⟨q2, g1⟩ := pPre_t g1
    obtain ⟨q3, g1⟩ := pPre_t g1
    obtain ⟨q4, g1⟩ := pPre_t g1
    obtain ⟨q5, g1⟩ := pPre_t g1
    obtain ⟨q6, g1⟩ := pPre_t g1
    obtain ⟨q7, g1⟩ := pPre_t g1
    obtain ⟨q8, _⟩ := pPre_t g1
    have hR : ∀ j, p ≤ j → j < e → ro j = if j = p + 1 then 2 else if j = p + 3 then 4 else if j = p + 5 ∨ j = p + 6 then 5 else if j = p + 8 then 6 else 0 := fun j a b => by
      rw [hro j a b]
      unfold roAnt
      rw [hr j a]
    rw [show f + (e - p) = f + 10 by omega]
    rw [← he] at H0
    refine ln_ant hE h h0 hv (eQ_t.mp q3) (eQ_t.mp q5) (eQ_t.mp q6) (qSide_t.mp q8) ?_ ?_ ?_ ?_ ?_ ?_ ?_ ?_ ?_ ?_ (by omega) hx (fun e0 M' hc => H0 e0 M' (fun g => absurd g (not_isO (Or.inr (Or.inl k5)))) hc) H1
    · rw [hR p (Nat.le_refl _) (by omega), if_neg (by omega), if_neg (by omega), if_neg (by omega), if_neg (by omega)]
    · rw [hR (p + 1) (by omega) (by omega), if_pos rfl]
    · rw [hR (p + 2) (by omega) (by omega), if_neg (by omega), if_neg (by omega), if_neg (by omega), if_neg (by omega)]
    · rw [hR (p + 3) (by omega) (by omega), if_neg (by omega), if_pos rfl]
    · rw [hR (p + 4) (by omega) (by omega), if_neg (by omega), if_neg (by omega), if_neg (by omega), if_neg (by omega)]
    · rw [hR (p + 5) (by omega) (by omega), if_neg (by omega), if_neg (by omega), if_pos (Or.inl rfl)]
    · rw [hR (p + 6) (by omega) (by omega), if_neg (by omega), if_neg (by omega), if_pos (Or.inr rfl)]
    · rw [hR (p + 7) (by omega) (by omega), if_neg (by omega), if_neg (by omega), if_neg (by omega), if_neg (by omega)]
    · rw [hR (p + 8) (by omega) (by omega), if_neg (by omega), if_neg (by omega), if_neg (by omega), if_pos rfl]
    · rw [hR (p + 9) (by omega) (by omega), if_neg (by omega), if_neg (by omega), if_neg (by omega), if_neg (by omega)]
  by_cases k3 : kdT T tl p = 213
  · have eL : sLn T tl p σ = sPaint T tl p σ := by unfold sLn; rw [if_neg k0, if_neg k5, if_pos k3]
    have eP : pLn T tl p = pPre (kdT T tl) paintQ (p + 1) := by unfold pLn; rw [if_neg k0, if_neg k5, if_pos k3]
    have eR : lnR T tl p r = roPnt p r := by unfold lnR; rw [if_neg (not_isO (Or.inr (Or.inr k3))), if_neg k0, if_neg k5]
    rw [eP] at g1 he
    rw [eR] at hro
    rw [eL] at H0 H1
    rw [pPre_end _ _ g1] at he
    have he : p + 1 + 3 + 1 = e := he
    obtain ⟨q1, g1⟩ := pPre_t g1
    obtain ⟨q2, g1⟩ := pPre_t g1
    obtain ⟨q3, _⟩ := pPre_t g1
    have hR : ∀ j, p ≤ j → j < e → ro j = if j = p + 1 ∨ j = p + 2 then 7 else if j = p + 3 then 8 else 0 := fun j a b => by
      rw [hro j a b]
      unfold roPnt
      rw [hr j a]
    rw [show f + (e - p) = f + 5 by omega]
    rw [← he] at H0
    refine ln_paint hE h h0 (eQ_t.mp q1) (eQ_t.mp q2) (eQ_t.mp q3) ?_ ?_ ?_ ?_ ?_ (by omega) hx (fun e0 M' hc => H0 e0 M' (fun g => absurd g (not_isO (Or.inr (Or.inr k3)))) hc) H1
    · rw [hR p (Nat.le_refl _) (by omega), if_neg (by omega), if_neg (by omega)]
    · rw [hR (p + 1) (by omega) (by omega), if_pos (Or.inl rfl)]
    · rw [hR (p + 2) (by omega) (by omega), if_pos (Or.inr rfl)]
    · rw [hR (p + 3) (by omega) (by omega), if_neg (by omega), if_pos rfl]
    · rw [hR (p + 4) (by omega) (by omega), if_neg (by omega), if_neg (by omega)]
  -- an order
  have hpn : p < nT T tl := by omega
  by_cases k14 : kdT T tl p = 214
  · have kO : isO (kdT T tl p) = true := isO_t.mpr (Or.inl k14)
    have eL : sLn T tl p σ = sWash T tl p σ := by unfold sLn; rw [if_neg k0, if_neg k5, if_neg k3, if_pos k14]
    have eP : pLn T tl p = pThen T tl (pPre (kdT T tl) washQ (p + 1)) := by unfold pLn; rw [if_neg k0, if_neg k5, if_neg k3, if_pos k14]
    have eR : lnR T tl p r = roL (lnL T tl p) (roOrd (kdT T tl) p r) := by unfold lnR; rw [if_pos kO]
    have eN : lnL T tl p = (pTest T tl (p + 5)).2.2 := if_pos k14
    rw [eP] at g1 g2 he
    rw [eR, eN] at hro
    rw [eL, eN] at H0
    rw [eL] at H1
    obtain ⟨t1, t2⟩ := tail_ok hpn (l := washQ) (by
      intro q hq k hk
      rcases List.mem_cons.mp hq with rfl | hq
      · have := eQ_t.mp hk; omega
      rcases List.mem_cons.mp hq with rfl | hq
      · have := eQ_t.mp hk; omega
      rcases List.mem_cons.mp hq with rfl | hq
      · have := eQ_t.mp hk; omega
      rcases List.mem_cons.mp hq with rfl | hq
      · have := eQ_t.mp hk; omega
      · exact absurd hq List.not_mem_nil) g1 rfl
    obtain ⟨_, _, gp⟩ := pThen_end g1
    obtain ⟨q1, gp⟩ := pPre_t gp
    obtain ⟨q2, gp⟩ := pPre_t gp
    obtain ⟨q3, _⟩ := pPre_t gp
    generalize (pThen T tl (pPre (kdT T tl) washQ (p + 1))).2 = e1 at g2 he t1
    have t1 : aInc (p + 5) e1 (pTest T tl (p + 5)).2.2 := t1
    have t2 : ∀ o ∈ (pTest T tl (p + 5)).2.2, isA o.1 = true → kdT T tl o.2 = 2 := t2
    have hq := aInc_le t1
    have hR : ∀ j, p ≤ j → j < e → (∀ o ∈ (pTest T tl (p + 5)).2.2, isA o.1 = true → o.2 ≠ j) → ro j = if j = p then 9 else if j = p + 1 then 10 else if j = p + 3 then 11 else 0 := fun j a b c => by
      rw [hro j a b, roL_out _ _ _ c]
      unfold roOrd
      rw [if_pos k14, hr j a]
    have hS : ∀ j, j < p + 5 → ∀ o ∈ (pTest T tl (p + 5)).2.2, isA o.1 = true → o.2 ≠ j := fun j a o ho hA => by
      have := aInc_in t1 o ho hA; omega
    rw [show f + (e - p) = f + 1 + (e1 - (p + 5)) + 5 by omega]
    rw [← he] at H0
    refine ln_wash hE h h0 hv k14 (eQ_t.mp q1) (eQ_t.mp q3) ?_ ?_ ?_ ?_ ?_ rfl t1 (fun o ho hA => ⟨?_, t2 o ho hA⟩) (fun j a b c => ?_) ?_ (by omega) hx (fun e0 M' hm hc => H0 e0 M' (fun _ => hm) hc) H1
    · rw [hR p (Nat.le_refl _) (by omega) (hS _ (by omega)), if_pos rfl]
    · rw [hR (p + 1) (by omega) (by omega) (hS _ (by omega)), if_neg (by omega), if_pos rfl]
    · rw [hR (p + 2) (by omega) (by omega) (hS _ (by omega)), if_neg (by omega), if_neg (by omega), if_neg (by omega)]
    · rw [hR (p + 3) (by omega) (by omega) (hS _ (by omega)), if_neg (by omega), if_neg (by omega), if_pos rfl]
    · rw [hR (p + 4) (by omega) (by omega) (hS _ (by omega)), if_neg (by omega), if_neg (by omega), if_neg (by omega)]
    · have := aInc_in t1 o ho hA
      rw [hro _ (by omega) (by omega)]
      exact roL_in _ _ o ho hA
    · rw [hR j (by omega) (by omega) c, if_neg (by omega), if_neg (by omega), if_neg (by omega)]
    · rw [hR e1 (by omega) (by omega) (fun o ho hA => by have := aInc_in t1 o ho hA; omega), if_neg (by omega), if_neg (by omega), if_neg (by omega)]
  by_cases k16 : kdT T tl p = 216
  · have kO : isO (kdT T tl p) = true := isO_t.mpr (Or.inr (Or.inl k16))
    have eL : sLn T tl p σ = sFace T tl p σ := by unfold sLn; rw [if_neg k0, if_neg k5, if_neg k3, if_neg k14, if_pos k16]
    have eP : pLn T tl p = pThen T tl (pPre (kdT T tl) faceQ (p + 1)) := by unfold pLn; rw [if_neg k0, if_neg k5, if_neg k3, if_neg k14, if_pos k16]
    have eR : lnR T tl p r = roL (lnL T tl p) (roOrd (kdT T tl) p r) := by unfold lnR; rw [if_pos kO]
    have eN : lnL T tl p = (pTest T tl (p + 4)).2.2 := by unfold lnL; rw [if_neg k14, if_pos k16]
    rw [eP] at g1 g2 he
    rw [eR, eN] at hro
    rw [eL, eN] at H0
    rw [eL] at H1
    obtain ⟨t1, t2⟩ := tail_ok hpn (l := faceQ) (by
      intro q hq k hk
      rcases List.mem_cons.mp hq with rfl | hq
      · have := eQ_t.mp hk; omega
      rcases List.mem_cons.mp hq with rfl | hq
      · have := qSide_t.mp hk; omega
      rcases List.mem_cons.mp hq with rfl | hq
      · have := eQ_t.mp hk; omega
      · exact absurd hq List.not_mem_nil) g1 rfl
    obtain ⟨_, _, gp⟩ := pThen_end g1
    obtain ⟨q1, gp⟩ := pPre_t gp
    obtain ⟨q2, _⟩ := pPre_t gp
    generalize (pThen T tl (pPre (kdT T tl) faceQ (p + 1))).2 = e1 at g2 he t1
    have t1 : aInc (p + 4) e1 (pTest T tl (p + 4)).2.2 := t1
    have t2 : ∀ o ∈ (pTest T tl (p + 4)).2.2, isA o.1 = true → kdT T tl o.2 = 2 := t2
    have hq := aInc_le t1
    have hR : ∀ j, p ≤ j → j < e → (∀ o ∈ (pTest T tl (p + 4)).2.2, isA o.1 = true → o.2 ≠ j) → ro j = if j = p then 9 else if j = p + 1 then 12 else if kdT T tl p = 216 ∧ j = p + 2 then 13 else 0 := fun j a b c => by
      rw [hro j a b, roL_out _ _ _ c]
      unfold roOrd
      rw [if_neg k14, hr j a]
    have hS : ∀ j, j < p + 4 → ∀ o ∈ (pTest T tl (p + 4)).2.2, isA o.1 = true → o.2 ≠ j := fun j a o ho hA => by
      have := aInc_in t1 o ho hA; omega
    rw [show f + (e - p) = f + 1 + (e1 - (p + 4)) + 4 by omega]
    rw [← he] at H0
    refine ln_face hE h h0 hv k16 (eQ_t.mp q1) (qSide_t.mp q2) ?_ ?_ ?_ ?_ rfl t1 (fun o ho hA => ⟨?_, t2 o ho hA⟩) (fun j a b c => ?_) ?_ (by omega) hx (fun e0 M' hm hc => H0 e0 M' (fun _ => hm) hc) H1
    · rw [hR p (Nat.le_refl _) (by omega) (hS _ (by omega)), if_pos rfl]
    · rw [hR (p + 1) (by omega) (by omega) (hS _ (by omega)), if_neg (by omega), if_pos rfl]
    · rw [hR (p + 2) (by omega) (by omega) (hS _ (by omega)), if_neg (by omega), if_neg (by omega), if_pos ⟨k16, rfl⟩]
    · rw [hR (p + 3) (by omega) (by omega) (hS _ (by omega)), if_neg (by omega), if_neg (by omega), if_neg (by omega)]
    · have := aInc_in t1 o ho hA
      rw [hro _ (by omega) (by omega)]
      exact roL_in _ _ o ho hA
    · rw [hR j (by omega) (by omega) c, if_neg (by omega), if_neg (by omega), if_neg (by omega)]
    · rw [hR e1 (by omega) (by omega) (fun o ho hA => by have := aInc_in t1 o ho hA; omega), if_neg (by omega), if_neg (by omega), if_neg (by omega)]
  by_cases k17 : kdT T tl p = 217 ∨ kdT T tl p = 218
  · have kO : isO (kdT T tl p) = true := isO_t.mpr (Or.inr (Or.inr k17))
    have eL : sLn T tl p σ = sHalt T tl p σ := by unfold sLn; rw [if_neg k0, if_neg k5, if_neg k3, if_neg k14, if_neg k16]
    have eP : pLn T tl p = pThen T tl (pPre (kdT T tl) haltQ (p + 1)) := by unfold pLn; rw [if_neg k0, if_neg k5, if_neg k3, if_neg k14, if_neg k16, if_pos k17]
    have eR : lnR T tl p r = roL (lnL T tl p) (roOrd (kdT T tl) p r) := by unfold lnR; rw [if_pos kO]
    have eN : lnL T tl p = (pTest T tl (p + 3)).2.2 := by unfold lnL; rw [if_neg k14, if_neg k16]
    rw [eP] at g1 g2 he
    rw [eR, eN] at hro
    rw [eL, eN] at H0
    rw [eL] at H1
    obtain ⟨t1, t2⟩ := tail_ok hpn (l := haltQ) (by
      intro q hq k hk
      rcases List.mem_cons.mp hq with rfl | hq
      · have := eQ_t.mp hk; omega
      rcases List.mem_cons.mp hq with rfl | hq
      · have := eQ_t.mp hk; omega
      · exact absurd hq List.not_mem_nil) g1 rfl
    obtain ⟨_, _, gp⟩ := pThen_end g1
    obtain ⟨q1, _⟩ := pPre_t gp
    generalize (pThen T tl (pPre (kdT T tl) haltQ (p + 1))).2 = e1 at g2 he t1
    have t1 : aInc (p + 3) e1 (pTest T tl (p + 3)).2.2 := t1
    have t2 : ∀ o ∈ (pTest T tl (p + 3)).2.2, isA o.1 = true → kdT T tl o.2 = 2 := t2
    have hq := aInc_le t1
    have hR : ∀ j, p ≤ j → j < e → (∀ o ∈ (pTest T tl (p + 3)).2.2, isA o.1 = true → o.2 ≠ j) → ro j = if j = p then 9 else if j = p + 1 then 12 else 0 := fun j a b c => by
      rw [hro j a b, roL_out _ _ _ c]
      unfold roOrd
      rw [if_neg k14, hr j a, if_neg (show ¬ (kdT T tl p = 216 ∧ j = p + 2) by omega)]
    have hS : ∀ j, j < p + 3 → ∀ o ∈ (pTest T tl (p + 3)).2.2, isA o.1 = true → o.2 ≠ j := fun j a o ho hA => by
      have := aInc_in t1 o ho hA; omega
    rw [show f + (e - p) = f + 1 + (e1 - (p + 3)) + 3 by omega]
    rw [← he] at H0
    refine ln_halt hE h h0 hv (by omega) (eQ_t.mp q1) ?_ ?_ ?_ rfl t1 (fun o ho hA => ⟨?_, t2 o ho hA⟩) (fun j a b c => ?_) ?_ (by omega) hx (fun e0 M' hm hc => H0 e0 M' (fun _ => hm) hc) H1
    · rw [hR p (Nat.le_refl _) (by omega) (hS _ (by omega)), if_pos rfl]
    · rw [hR (p + 1) (by omega) (by omega) (hS _ (by omega)), if_neg (by omega), if_pos rfl]
    · rw [hR (p + 2) (by omega) (by omega) (hS _ (by omega)), if_neg (by omega), if_neg (by omega)]
    · have := aInc_in t1 o ho hA
      rw [hro _ (by omega) (by omega)]
      exact roL_in _ _ o ho hA
    · rw [hR j (by omega) (by omega) c, if_neg (by omega), if_neg (by omega)]
    · rw [hR e1 (by omega) (by omega) (fun o ho hA => by have := aInc_in t1 o ho hA; omega), if_neg (by omega), if_neg (by omega)]
  · exfalso
    unfold pLn at g1
    rw [if_neg k0, if_neg k5, if_neg k3, if_neg k14, if_neg k16, if_neg k17] at g1
    exact absurd (show false = true from g1) (by decide)
end LineR
