/-! the reference's second pass: lines of ants and stones -/
/-- bounds that lines keep -/
def BB (σ : aS) : Prop := pg_r (sgP σ) ≤ 5 ∧ (∀ r, r < pg_r (sgP σ) → pg_z (sgP σ) r ≤ 6) ∧ pg_o (sgP σ) ≤ 20 ∧ yd_n (sgY σ) ≤ 6
section SecM2
variable {G : gS} {ad : Nat → Nat} {M : mS} {T : Nat → Nat} {tl : Nat} {C : List Int32} {O : List Nat} {ro : Nat → Nat} {W : List (Nat × Nat)} {p x f : Nat} {σ : aS} {Q : mS → Int32 → Prop}
/-- the pass at a line's beginning; at a line's end, behind the line from p -/
def CL (ad : Nat → Nat) (T : Nat → Nat) (tl : Nat) (C : List Int32) (O : List Nat) (ro : Nat → Nat) (W : List (Nat × Nat)) (M1 M : mS) (p j : Nat) (σ : aS) : Prop := CI ad T tl C O ro W M1 M p j (sgP σ) (sgY σ) 0 (sgN σ) (sgA σ)
theorem e_0 (h : sgE σ = 0) {pl : Nat} : eAt σ 0 pl := ⟨h, fun q => absurd rfl q⟩
theorem sUp_Y {g : aA → aA} : sgY (sUp g σ) = aAnt (yd_n (sgY σ) - 1) (g (yd_a (sgY σ) (yd_n (sgY σ) - 1))) (sgY σ) := rfl
theorem sAnt_0 {j : Nat} (h : yd_n (sgY σ) < 6) : sgP (sAnt T tl j σ) = sgP σ ∧ sgY (sAnt T tl j σ) = aBegin (sgY σ) ∧ sgN (sAnt T tl j σ) = sgN σ ∧ sgA (sAnt T tl j σ) = fun k => if k = yd_n (sgY σ) then keyT T tl j else sgA σ k := by
  unfold sAnt
  rw [if_pos h]
  exact ⟨rfl, rfl, rfl, rfl⟩
theorem if_0 {b : Prop} [Decidable b] {e : Nat} (he : e ≠ 0) (h : (if b then 0 else e) = 0) : b := by
  by_cases g : b
  · exact g
  · rw [if_neg g] at h; exact absurd h he
theorem if_1 {b : Prop} [Decidable b] {e u : Nat} (he : e ≠ 0) (h : (if b then e else u) = 0) : ¬ b ∧ u = 0 := by
  by_cases g : b
  · rw [if_pos g] at h; exact absurd h he
  · rw [if_neg g] at h; exact ⟨g, h⟩
theorem if_2 {b : Prop} [Decidable b] {e u : Nat} (he : e ≠ 0) (h : (if b then u else e) = 0) : b ∧ u = 0 := by
  by_cases g : b
  · rw [if_pos g] at h; exact ⟨g, h⟩
  · rw [if_neg g] at h; exact absurd h he
theorem nRn_in {lo hi n : Nat} (h : lo ≤ n ∧ n ≤ hi) : nRn lo hi n = n := if_pos h
theorem sRn_in {lo hi n pl : Nat} (h : lo ≤ n ∧ n ≤ hi) : sRn lo hi n pl σ = σ := if_pos h
set_option maxHeartbeats 1600000 in
theorem ln_ant (hE : EV G ad T tl ro) (h : CL ad T tl C O ro W M M p p σ) (h0 : sgE σ = 0) (hv : BB σ) (k3 : kdT T tl (p + 3) = 2) (k5 : kdT T tl (p + 5) = 3) (k6 : kdT T tl (p + 6) = 3) (k8 : 209 ≤ kdT T tl (p + 8) ∧ kdT T tl (p + 8) ≤ 212) (r0 : ro p = 0) (r1 : ro (p + 1) = 2) (r2 : ro (p + 2) = 0) (r3 : ro (p + 3) = 4) (r4 : ro (p + 4) = 0) (r5 : ro (p + 5) = 5) (r6 : ro (p + 6) = 5) (r7 : ro (p + 7) = 0) (r8 : ro (p + 8) = 6) (r9 : ro (p + 9) = 0) (hp : p + 10 ≤ x) (hx : x ≤ nT T tl) (H0 : sgE (sAntL T tl p σ) = 0 → ∀ M', CL ad T tl C O ro W M M' p (p + 10) (sAntL T tl p σ) → p_cl (m_X12_read_57 G (ad 70) f M' (zn x)) Q) (H1 : sgE (sAntL T tl p σ) ≠ 0 → ∀ M', EF ad M M' (sgL (sAntL T tl p σ)) → Q M' (zn (sgE (sAntL T tl p σ)))) : p_cl (m_X12_read_57 G (ad 70) (f + 10) M (zn x)) Q := by
  have hn6 := hv.2.2.2
  have hr5 := hv.1
  refine st_nil hE h (Nat.le_refl _) (by omega) hx r0 (e_0 h0) (kE_sAntL (T := T) (tl := tl) (p := p)) (fun _ M2 _ h2 => ?_) H1
  have K1 : kE (sAnt T tl (p + 1) σ) (sAntL T tl p σ) := by
    unfold sAntL
    refine kE_tr ?_ kE_up
    refine kE_tr ?_ kE_up
    refine kE_tr ?_ kE_sRn
    refine kE_tr ?_ kE_sRn
    unfold sAnt1
    refine kE_tr ?_ kE_up
    unfold sRulN
    exact kE_sLk
  refine st_ant hE h2 (by omega) (by omega) hx r1 hn6 (sAnt_e h0 hn6) K1 (fun e1 M3 _ h3 => ?_) H1
  obtain ⟨a1, b1⟩ := if_2 (by decide) e1
  obtain ⟨a2, _⟩ := if_1 (by decide) b1
  have hE1 : sgE (sAnt T tl (p + 1) σ) = 0 := (sAnt_e h0 hn6).1.trans e1
  obtain ⟨c1, c2, c3, c4⟩ := sAnt_0 (T := T) (tl := tl) (j := p + 1) (σ := σ) (by omega)
  have hn1 : yd_n (sgY (sAnt T tl (p + 1) σ)) = yd_n (sgY σ) + 1 := by rw [c2]; rfl
  have h3 : CI ad T tl C O ro W M M3 p (p + 2) (sgP (sAnt T tl (p + 1) σ)) (sgY (sAnt T tl (p + 1) σ)) 0 (sgN (sAnt T tl (p + 1) σ)) (sgA (sAnt T tl (p + 1) σ)) := by
    rw [c1, c2, c3, c4]; exact h3
  have hr1 : pg_r (sgP (sAnt T tl (p + 1) σ)) ≤ 5 := by rw [c1]; exact hr5
  have eF : sAntL T tl p σ = sUp (anFace (kdT T tl (p + 8) - 209)) (sUp (anMove (nRn 0 63 (numT T tl (p + 5))) (nRn 0 63 (numT T tl (p + 6)))) (sRn 0 63 (numT T tl (p + 6)) (tkP T tl (p + 6)) (sRn 0 63 (numT T tl (p + 5)) (tkP T tl (p + 5)) (sUp (anRule (ixD (rulO T tl (p + 3) (sAnt T tl (p + 1) σ)))) (sLk (rulO T tl (p + 3) (sAnt T tl (p + 1) σ)) (tkP T tl (p + 3)) (sAnt T tl (p + 1) σ)))))) := rfl
  generalize sAnt T tl (p + 1) σ = σ1 at eF hE1 hn1 h3 hr1 K1
  generalize sAntL T tl p σ = σF at eF K1 H0 H1
  refine st_nil hE h3 (by omega) (by omega) hx r2 (e_0 hE1) K1 (fun _ M4 _ h4 => ?_) H1
  have K3 : kE (sLk (rulO T tl (p + 3) σ1) (tkP T tl (p + 3)) σ1) σF := by
    rw [eF]
    refine kE_tr ?_ kE_up
    refine kE_tr ?_ kE_up
    refine kE_tr ?_ kE_sRn
    refine kE_tr ?_ kE_sRn
    exact kE_up
  refine st_ruled hE h4 (by omega) (by omega) hx r3 k3 (by omega) (by omega) hr1 (sLk_e hE1) K3 (fun e3 M5 _ h5 => ?_) H1
  obtain ⟨a3, _⟩ := if_1 (by decide) e3
  have hL1 : sLk (rulO T tl (p + 3) σ1) (tkP T tl (p + 3)) σ1 = σ1 := if_neg a3
  rw [hL1] at eF
  have h5 : CI ad T tl C O ro W M M5 p (p + 4) (sgP (sUp (anRule (ixD (rulO T tl (p + 3) σ1))) σ1)) (sgY (sUp (anRule (ixD (rulO T tl (p + 3) σ1))) σ1)) 0 (sgN (sUp (anRule (ixD (rulO T tl (p + 3) σ1))) σ1)) (sgA (sUp (anRule (ixD (rulO T tl (p + 3) σ1))) σ1)) := h5
  have hE2 : sgE (sUp (anRule (ixD (rulO T tl (p + 3) σ1))) σ1) = 0 := hE1
  have hn2 : yd_n (sgY (sUp (anRule (ixD (rulO T tl (p + 3) σ1))) σ1)) = yd_n (sgY σ) + 1 := hn1
  generalize sUp (anRule (ixD (rulO T tl (p + 3) σ1))) σ1 = σ2 at eF h5 hE2 hn2
  have K4 : kE σ2 σF := by
    rw [eF]
    refine kE_tr ?_ kE_up
    refine kE_tr ?_ kE_up
    refine kE_tr ?_ kE_sRn
    exact kE_sRn
  refine st_nil hE h5 (by omega) (by omega) hx r4 (e_0 hE2) K4 (fun _ M6 _ h6 => ?_) H1
  have K5 : kE (sRn 0 63 (numT T tl (p + 5)) (tkP T tl (p + 5)) σ2) σF := by
    rw [eF]
    refine kE_tr ?_ kE_up
    refine kE_tr ?_ kE_up
    exact kE_sRn
  refine st_col hE h6 (by omega) (by omega) hx r5 k5 (by omega) (by omega) (sRn_e hE2) K5 (fun e5 M7 m7 _ h7 => ?_) H1
  have a5 := if_0 (by decide) e5
  rw [sRn_in a5, nRn_in a5] at eF
  have K6 : kE (sRn 0 63 (numT T tl (p + 6)) (tkP T tl (p + 6)) σ2) σF := by
    rw [eF]
    refine kE_tr ?_ kE_up
    exact kE_up
  refine st_row hE h7 (by omega) (by omega) hx r6 k6 (show 1 ≤ yd_n (sgY σ2) by omega) (show yd_n (sgY σ2) ≤ 6 by omega) m7 (sRn_e hE2) K6 (fun e6 M8 _ h8 => ?_) H1
  have a6 := if_0 (by decide) e6
  rw [sRn_in a6, nRn_in a6] at eF
  have h8 : CI ad T tl C O ro W M M8 p (p + 7) (sgP σ2) (aAnt (yd_n (sgY σ2) - 1) (anMove (numT T tl (p + 5)) (numT T tl (p + 6)) (yd_a (aAnt (yd_n (sgY σ2) - 1) (anMove (numT T tl (p + 5)) 0 (yd_a (sgY σ2) (yd_n (sgY σ2) - 1))) (sgY σ2)) (yd_n (sgY σ2) - 1))) (aAnt (yd_n (sgY σ2) - 1) (anMove (numT T tl (p + 5)) 0 (yd_a (sgY σ2) (yd_n (sgY σ2) - 1))) (sgY σ2))) 2 (sgN σ2) (sgA σ2) := h8
  rw [aAnt_two, aAnt_i] at h8
  have h8 : CI ad T tl C O ro W M M8 p (p + 7) (sgP (sUp (anMove (numT T tl (p + 5)) (numT T tl (p + 6))) σ2)) (sgY (sUp (anMove (numT T tl (p + 5)) (numT T tl (p + 6))) σ2)) 2 (sgN (sUp (anMove (numT T tl (p + 5)) (numT T tl (p + 6))) σ2)) (sgA (sUp (anMove (numT T tl (p + 5)) (numT T tl (p + 6))) σ2)) := h8
  have hE3 : sgE (sUp (anMove (numT T tl (p + 5)) (numT T tl (p + 6))) σ2) = 0 := hE2
  have hn3 : yd_n (sgY (sUp (anMove (numT T tl (p + 5)) (numT T tl (p + 6))) σ2)) = yd_n (sgY σ) + 1 := hn2
  generalize sUp (anMove (numT T tl (p + 5)) (numT T tl (p + 6))) σ2 = σ3 at eF h8 hE3 hn3
  have K7 : kE σ3 σF := by rw [eF]; exact kE_up
  refine st_nil hE h8 (by omega) (by omega) hx r7 (e_0 hE3) K7 (fun _ M9 _ h9 => ?_) H1
  refine st_aside hE h9 (by omega) (by omega) hx r8 k8 (by omega) (by omega) (e_0 hE3) K7 (fun _ M10 _ h10 => ?_) H1
  have h10 : CL ad T tl C O ro W M M10 p (p + 9) σF := by rw [eF]; exact h10
  have hE4 : sgE σF = 0 := by rw [eF]; exact hE3
  exact st_nil hE h10 (by omega) (by omega) hx r9 (e_0 hE4) kE_rf (fun _ M11 _ h11 => H0 hE4 M11 h11) H1
set_option maxHeartbeats 1600000 in
theorem ln_paint (hE : EV G ad T tl ro) (h : CL ad T tl C O ro W M M p p σ) (h0 : sgE σ = 0) (k1 : kdT T tl (p + 1) = 3) (k2 : kdT T tl (p + 2) = 3) (k3 : kdT T tl (p + 3) = 3) (r0 : ro p = 0) (r1 : ro (p + 1) = 7) (r2 : ro (p + 2) = 7) (r3 : ro (p + 3) = 8) (r4 : ro (p + 4) = 0) (hp : p + 5 ≤ x) (hx : x ≤ nT T tl) (H0 : sgE (sPaint T tl p σ) = 0 → ∀ M', CL ad T tl C O ro W M M' p (p + 5) (sPaint T tl p σ) → p_cl (m_X12_read_57 G (ad 70) f M' (zn x)) Q) (H1 : sgE (sPaint T tl p σ) ≠ 0 → ∀ M', EF ad M M' (sgL (sPaint T tl p σ)) → Q M' (zn (sgE (sPaint T tl p σ)))) : p_cl (m_X12_read_57 G (ad 70) (f + 5) M (zn x)) Q := by
  refine st_nil hE h (Nat.le_refl _) (by omega) hx r0 (e_0 h0) (kE_sPaint (T := T) (tl := tl) (p := p)) (fun _ M2 _ h2 => ?_) H1
  have eF : sPaint T tl p σ = sSetY (aSet (nRn 0 63 (numT T tl (p + 2)) * 64 + nRn 0 63 (numT T tl (p + 1))) (nRn 0 5 (numT T tl (p + 3))) (sgY σ)) (sRn 0 5 (numT T tl (p + 3)) (tkP T tl (p + 3)) (sRn 0 63 (numT T tl (p + 2)) (tkP T tl (p + 2)) (sRn 0 63 (numT T tl (p + 1)) (tkP T tl (p + 1)) σ))) := rfl
  generalize sPaint T tl p σ = σF at eF H0 H1
  have K1 : kE (sRn 0 63 (numT T tl (p + 1)) (tkP T tl (p + 1)) σ) σF := by
    rw [eF]
    refine kE_Y ?_
    refine kE_tr ?_ kE_sRn
    exact kE_sRn
  refine st_place hE h2 (by omega) (by omega) hx r1 k1 (by decide) (sRn_e h0) K1 (fun e1 M3 m3 _ h3 => ?_) H1
  have a1 := if_0 (by decide) e1
  rw [sRn_in a1, nRn_in a1] at eF
  have K2 : kE (sRn 0 63 (numT T tl (p + 2)) (tkP T tl (p + 2)) σ) σF := by
    rw [eF]
    refine kE_Y ?_
    exact kE_sRn
  refine st_place hE h3 (by omega) (by omega) hx r2 k2 (by decide) (sRn_e h0) K2 (fun e2 M4 m4 _ h4 => ?_) H1
  have a2 := if_0 (by decide) e2
  rw [sRn_in a2, nRn_in a2] at eF
  have K3 : kE (sRn 0 5 (numT T tl (p + 3)) (tkP T tl (p + 3)) σ) σF := by
    rw [eF]
    exact kE_Y kE_rf
  refine st_paint hE h4 (by omega) (by omega) hx r3 k3 (u := numT T tl (p + 1)) (v := numT T tl (p + 2)) (by rw [m4.2 0 (by decide)]; exact m3.1) m4.1 (Nat.lt_succ_of_le a1.2) (Nat.lt_succ_of_le a2.2) (sRn_e h0) K3 (fun e3 M5 _ h5 => ?_) H1
  have a3 := if_0 (by decide) e3
  rw [sRn_in a3, nRn_in a3] at eF
  have h5 : CL ad T tl C O ro W M M5 p (p + 4) σF := by rw [eF]; exact h5
  have hE4 : sgE σF = 0 := by rw [eF]; exact h0
  exact st_nil hE h5 (by omega) (by omega) hx r4 (e_0 hE4) kE_rf (fun _ M6 _ h6 => H0 hE4 M6 h6) H1
end SecM2
