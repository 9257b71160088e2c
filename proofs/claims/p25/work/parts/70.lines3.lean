/-! the class's parser: lines of ants, and all lines -/
def sAnt (T : Nat → Nat) (tl j : Nat) (σ : aS) : aS :=
  if yd_n (sgY σ) < 6 then (sgP σ, aBegin (sgY σ), sgN σ, fun k => if k = yd_n (sgY σ) then keyT T tl j else sgA σ k, sgE (sNew (antO T tl j σ) (tkP T tl j) σ), sgL (sNew (antO T tl j σ) (tkP T tl j) σ))
  else sC 4 (tkP T tl j) (sNew (antO T tl j σ) (tkP T tl j) σ)
/-- the latest ant is changed -/
def sUp (f : aA → aA) (σ : aS) : aS := sSetY (aAnt (yd_n (sgY σ) - 1) (f (yd_a (sgY σ) (yd_n (sgY σ) - 1))) (sgY σ)) σ
theorem sUp_n {f : aA → aA} {σ : aS} : yd_n (sgY (sUp f σ)) = yd_n (sgY σ) := rfl
def sRulN (T : Nat → Nat) (tl p : Nat) (σ : aS) : aS := sLk (rulO T tl p σ) (tkP T tl p) σ
/-- ant name of rule at column row faces side -/
def sAnt1 (T : Nat → Nat) (tl p : Nat) (σ : aS) : aS := sUp (anRule (ixD (rulO T tl (p + 3) (sAnt T tl (p + 1) σ)))) (sRulN T tl (p + 3) (sAnt T tl (p + 1) σ))
def sAntL (T : Nat → Nat) (tl p : Nat) (σ : aS) : aS :=
  sUp (anFace (kdT T tl (p + 8) - 209)) (sUp (anMove (nRn 0 63 (numT T tl (p + 5))) (nRn 0 63 (numT T tl (p + 6)))) (sRn 0 63 (numT T tl (p + 6)) (tkP T tl (p + 6)) (sRn 0 63 (numT T tl (p + 5)) (tkP T tl (p + 5)) (sAnt1 T tl p σ))))
section Lines3
variable {G : gS} {ad : Nat → Nat} {T : Nat → Nat} {tl : Nat}
/-- the trial's ants are ants -/
def AK (G : gS) (ad : Nat → Nat) : Prop := ∀ i, i < 6 → ad (38 + 5 + 2 * i) ∈ gL G ∧ gK G (ad (38 + 5 + 2 * i)) = 0
theorem r_nameAnt (hA : Inj ad) (hS : Sh G ad) (hK : AK G ad) (hT : ∀ k, k < tl → T k < 256) {M : mS} {σ : aS} {p : Nat} (h : CR ad M T tl p σ) (hk : kdT T tl p = 2) : p_cl (m_X2_nameAnt G M (ad 55) (vlT T tl p)) (fun M' r => r = ad (38 + 5 + 2 * (yd_n (sgY (sAnt T tl p σ)) - 1)) ∧ CR ad M' T tl p (sAnt T tl p σ) ∧ 1 ≤ yd_n (sgY (sAnt T tl p σ)) ∧ Fr (PF ad) M M') := by
  have hky := name_ok hT hk
  have h6 := h.2.2.2.1.2.1
  have last : ∀ (M0 M : mS) (σ' : aS), CR ad M T tl p σ' → 1 ≤ yd_n (sgY σ') → Fr (PF ad) M0 M → p_cl (m_X2_nameAnt_56 G (ad 55) (Int64.ofNat (keyT T tl p)) M) (fun M' r => r = ad (38 + 5 + 2 * (yd_n (sgY σ') - 1)) ∧ CR ad M' T tl p σ' ∧ 1 ≤ yd_n (sgY σ') ∧ Fr (PF ad) M0 M') := fun M0 M σ' h' hn hF => by
    unfold m_X2_nameAnt_56
    refine c_rf (sh_q2 hS) ?_
    have h6' := h'.2.2.2.1.2.1
    rw [c_latest (sh_Y38 hS) h'.1.2.2.1.2.1 h6']
    exact c_cl (c_some (c_ck (hK _ (by omega)) (c_some ⟨rfl, h', hn, hF⟩)))
  unfold m_X2_nameAnt
  rw [hky.1]
  refine c_rf (sh_q4 hS) (c_rf (sh_q2 hS) ?_)
  rw [r_ixA hS h hky.2]
  refine c_cl (c_some (r_new hA hS h (k := m_X2_nameAnt_23 G (ad 55) (Int64.ofNat (keyT T tl p))) (fun i hi => by have := ixN_lt _ _ _ hi; omega) ?_))
  intro M1 h1 f1
  have e5 := sNew_5 (ixN (sgA σ) (keyT T tl p) (yd_n (sgY σ)) 0) (tkP T tl p) σ
  unfold m_X2_nameAnt_23 sAnt antO
  generalize sNew (ixN (sgA σ) (keyT T tl p) (yd_n (sgY σ)) 0) (tkP T tl p) σ = σ1 at h1 e5 ⊢
  obtain ⟨e1, e2, e3, e4⟩ := e5
  have h61 := h1.2.2.2.1.2.1
  refine c_rf (sh_q2 hS) (c_clm (cY_begin hA (sh_Y38 hS) h1.1.2.2.1 h61) ?_)
  rintro M2 r ⟨a2, b2, f2⟩
  rw [e2] at a2 b2
  by_cases k : yd_n (sgY σ) < 6
  · obtain ⟨rfl, h2⟩ := a2 k
    rw [if_pos k]
    refine c_f (by decide) (c_rf (sh_q4 hS) (c_rf (sh_q2 hS) ?_))
    have e0 : mI M2 (ad 38) 4 - 1 = zn (yd_n (sgY σ)) := by
      rw [h2.2.1.1]
      exact zn_top
    rw [e0]
    refine c_ix (by rw [sh_qn4 hS]; exact zn_in k (by decide)) (c_wJ ?_)
    rw [zn_nat (by omega)]
    have fJ : Fr (Bk ad 57 58) M2 (wJ M2 (ad 57) (yd_n (sgY σ)) (Int64.ofNat (keyT T tl p))) := Fr_wJ Fr_rf (Bk_in (by omega) (by omega))
    have fJ2 : Fr (PF ad) M2 (wJ M2 (ad 57) (yd_n (sgY σ)) (Int64.ofNat (keyT T tl p))) := Fr_mono fJ (fun _ q => Or.inr (Bk_sub (by decide) (by decide) q))
    have f2' : Fr (PF ad) M1 M2 := PF_Y f2 (by decide) (by decide)
    refine last M _ (sgP σ, aBegin (sgY σ), sgN σ, fun k => if k = yd_n (sgY σ) then keyT T tl p else sgA σ k, sgE σ1, sgL σ1) ?_ (by show 1 ≤ yd_n (sgY σ) + 1; omega) (Fr_tr f1 (Fr_tr f2' fJ2))
    obtain ⟨⟨g1, g2, g3, g4, g5⟩, ⟨w1, w2, w3, w4⟩, v5, v6, ⟨v7, v8⟩, v9⟩ := h1
    rw [e1] at v5 g2
    rw [e2] at v6
    rw [e3] at v7
    rw [e4] at v8
    rw [e1, e3] at g4
    rw [e2, e4] at g5
    have gJ : ∀ b, mJ (wJ M2 (ad 57) (yd_n (sgY σ)) (Int64.ofNat (keyT T tl p))) (ad 57) b = if b = yd_n (sgY σ) then Int64.ofNat (keyT T tl p) else mJ M1 (ad 57) b := fun b => by
      rw [mJ_wJ_eq, updL_at, Fr_J hA f2 (by decide)]
    refine ⟨⟨cK_PF hA (cK_PF hA g1 f2') fJ2, cP_Fr hA (cP_Fr hA g2 f2 (by decide)) fJ (by decide), cY_Fr hA h2 (show yd_n (sgY σ) + 1 ≤ 6 by omega) fJ (by decide), fun j hj => ?_, fun j hj => ?_⟩, ⟨?_, w2, ?_, fun q => ?_⟩, v5, ⟨v6.1, by show yd_n (sgY σ) + 1 ≤ 6; omega, fun i hi => ?_⟩, ⟨v7, fun j => ?_⟩, v9⟩
    · rw [Fr_J hA fJ (by decide), Fr_J hA f2 (by decide)]
      exact g4 j hj
    · have hj : j < yd_n (sgY σ) + 1 := hj
      rw [gJ]
      show _ = Int64.ofNat (if j = yd_n (sgY σ) then keyT T tl p else sgA σ j)
      by_cases e : j = yd_n (sgY σ)
      · rw [if_pos e, if_pos e]
      · rw [if_neg e, if_neg e]
        exact g5 j (by omega)
    · rw [Fr_I hA fJ (by decide), Fr_I hA f2 (by decide)]; exact w1
    · rw [Fr_I hA fJ (by decide), Fr_I hA f2 (by decide)]; exact w3
    · rw [Fr_I hA fJ (by decide), Fr_I hA f2 (by decide)]; exact w4 q
    · have hi : i < yd_n (sgY σ) + 1 := hi
      show vA (if i = yd_n (sgY σ) then an0 else yd_a (sgY σ) i) ∧ an_n (if i = yd_n (sgY σ) then an0 else yd_a (sgY σ) i) ≤ 0
      split
      · exact ⟨⟨by decide, by decide, by decide, by decide, by decide, fun _ => by show (0 : Nat) < 4; decide⟩, by decide⟩
      · exact v6.2.2 i (by omega)
    · show (if j = yd_n (sgY σ) then keyT T tl p else sgA σ j) < 9223372036854775808
      split
      · exact hky.2
      · exact v8 j
  · obtain ⟨rfl, rfl⟩ := b2 (by rw [e2] at h61; omega)
    rw [if_neg k]
    refine c_t rfl (c_clm (r_complain hA hS h1 (e := 4) (by decide)) ?_)
    rintro M3 _ ⟨h3, f3⟩
    exact last M M3 _ h3 (by rw [(sC_5 _ _ σ1).2.1, e2]; omega) (Fr_tr f1 f3)
theorem r_up (hA : Inj ad) {M M' : mS} {σ : aS} {p : Nat} (h : CR ad M T tl p σ) (hn : 1 ≤ yd_n (sgY σ)) {f : aA → aA} (h1 : cA ad M' (38 + 5 + 2 * (yd_n (sgY σ) - 1)) (f (yd_a (sgY σ) (yd_n (sgY σ) - 1)))) (h2 : Fr (Bk ad (38 + 5 + 2 * (yd_n (sgY σ) - 1)) (38 + 5 + 2 * (yd_n (sgY σ) - 1) + 2)) M M') (hv : vA (f (yd_a (sgY σ) (yd_n (sgY σ) - 1)))) (hz : an_n (f (yd_a (sgY σ) (yd_n (sgY σ) - 1))) ≤ 0) : CR ad M' T tl p (sUp f σ) ∧ Fr (PF ad) M M' := by
  have h6 := h.2.2.2.1.2.1
  exact ⟨CR_Y hA h (Fr_sub h2 (by omega) (by omega)) (cY_ant1 hA h6 (by omega) h.1.2.2.1 h1 h2) rfl (vY_ant h.2.2.2.1 (Nat.le_refl _) hv hz), PF_Y h2 (by omega) (by omega)⟩
theorem sRn_n {lo hi n pl : Nat} {σ : aS} : yd_n (sgY (sRn lo hi n pl σ)) = yd_n (sgY σ) := by rw [(sRn_5 _ _ _ _ _).2.1]
theorem sLk_n {o : Option Nat} {pl : Nat} {σ : aS} : yd_n (sgY (sLk o pl σ)) = yd_n (sgY σ) := by rw [(sLk_5 _ _ _).2.1]
theorem r_ant (hA : Inj ad) (hS : Sh G ad) (hK : AK G ad) (hT : ∀ k, k < tl → T k < 256) {M : mS} {σ : aS} {p : Nat} (h : CR ad M T tl p σ) (hp : p < nT T tl) : PostL ad T tl M (m_X2_antLine G M (ad 55)) (pPre (kdT T tl) antQ (p + 1)) (sAntL T tl p σ) := by
  have kb : ∀ q, kdT T tl q < 1000 := fun q => kdT_le hT
  unfold m_X2_antLine antQ m_X2_antLine_45 m_X2_antLine_84 m_X2_antLine_133
  refine c_clm (r_adv hA hS h hp) ?_
  rintro M1 _ ⟨h1, f1⟩
  rw [r_kind hS h1]
  refine c_cl (c_some (c_if (fun g => ?_) (fun g => ?_)))
  rotate_left
  · have g : ¬ kdT T tl (p + 1) = 2 := fun q => g ((zn_lit (kb _) (by decide)).mpr q)
    rw [pPre, if_neg (fun q => g (eQ_t.mp q))]
    exact PL_no h1 f1
  have g : kdT T tl (p + 1) = 2 := (zn_lit (kb _) (by decide)).mp g
  rw [pPre, if_pos (eQ_t.mpr g), r_value hS h1 (kdT_lt (by omega))]
  refine c_cl (c_some (c_clm (r_nameAnt hA hS hK hT h1 g) ?_))
  rintro M2 _ ⟨rfl, h2, hn2, f2⟩
  have hle2 := h2.2.2.2.1.2.1
  refine c_ck (hK _ (by omega)) ?_
  generalize hi : 38 + 5 + 2 * (yd_n (sgY (sAnt T tl (p + 1) σ)) - 1) = ix
  refine c_clm (r_adv hA hS h2 (kdT_lt (by omega))) ?_
  rintro M3 _ ⟨h3, f3⟩
  have F3 := Fr_tr f1 (Fr_tr f2 f3)
  refine c_clm (r_take hA hS hT h3 (k := 206) (by decide) (by decide)) ?_
  rintro M4 r ⟨a4, b4, f4⟩
  have F4 := Fr_tr F3 f4
  by_cases k4 : kdT T tl (p + 1 + 1) = 206
  rotate_left
  · obtain ⟨rfl, h4⟩ := b4 k4
    rw [pPre, if_neg (fun q => k4 (eQ_t.mp q))]
    exact c_t rfl (PL_no h4 F4)
  obtain ⟨rfl, h4⟩ := a4 k4
  rw [pPre, if_pos (eQ_t.mpr k4)]
  refine c_f (by decide) ?_
  rw [r_kind hS h4]
  refine c_cl (c_some (c_if (fun g5 => ?_) (fun g5 => ?_)))
  rotate_left
  · have g5 : ¬ kdT T tl (p + 1 + 1 + 1) = 2 := fun q => g5 ((zn_lit (kb _) (by decide)).mpr q)
    rw [pPre, if_neg (fun q => g5 (eQ_t.mp q))]
    exact PL_no h4 F4
  have g5 : kdT T tl (p + 1 + 1 + 1) = 2 := (zn_lit (kb _) (by decide)).mp g5
  rw [pPre, if_pos (eQ_t.mpr g5)]
  have hr5 := h4.2.2.1.1
  refine c_rf (sh_q3 hS) (c_rf (sh_q1 hS) (c_clm (r_known hA hS h4 g5 hT (r_ixR hS h4 (name_ok hT g5).2) (fun i hi => by have := ixN_lt _ _ _ hi; omega)) ?_))
  rintro M5 _ ⟨rfl, h5, f5⟩
  have hn5 : 1 ≤ yd_n (sgY (sRulN T tl (p + 3) (sAnt T tl (p + 1) σ))) := by unfold sRulN; rw [sLk_n]; exact hn2
  have hi5 : 38 + 5 + 2 * (yd_n (sgY (sRulN T tl (p + 3) (sAnt T tl (p + 1) σ))) - 1) = ix := by unfold sRulN; rw [sLk_n]; exact hi
  have h5 : CR ad M5 T tl (p + 4) (sRulN T tl (p + 3) (sAnt T tl (p + 1) σ)) := h5
  have hle5 := h5.2.2.2.1.2.1
  have hA5 := h5.1.2.2.1.2.2 (yd_n (sgY (sRulN T tl (p + 3) (sAnt T tl (p + 1) σ))) - 1) (by omega)
  have hv5 := h5.2.2.2.1.2.2 (yd_n (sgY (sRulN T tl (p + 3) (sAnt T tl (p + 1) σ))) - 1) (by omega)
  have hx5 : ixD (rulO T tl (p + 3) (sAnt T tl (p + 1) σ)) < 5 := by
    cases e : rulO T tl (p + 3) (sAnt T tl (p + 1) σ) with
    | none => exact (by decide : (0 : Nat) < 5)
    | some i =>
      have := ixN_lt _ _ _ e
      show i < 5
      omega
  refine c_wI ?_
  have h6 := r_up (M' := wI M5 (ad ix) 0 (zn (ixD (rulO T tl (p + 3) (sAnt T tl (p + 1) σ))))) hA h5 hn5 (f := anRule (ixD (rulO T tl (p + 3) (sAnt T tl (p + 1) σ)))) (by
    rw [hi5] at hA5 ⊢
    obtain ⟨⟨z0, z1, z2, z3, z4, z5, z6, z8⟩, z7⟩ := hA5
    refine ⟨⟨wI_eq, ?_, ?_, ?_, ?_, ?_, ?_, fun k k1 k2 k3 => ?_⟩, ?_⟩
    · rw [wI_ne hA (Or.inr (by decide))]; exact z1
    · rw [wI_ne hA (Or.inr (by decide))]; exact z2
    · rw [wI_ne hA (Or.inr (by decide))]; exact z3
    · rw [wI_ne hA (Or.inr (by decide))]; exact z4
    · rw [wI_ne hA (Or.inr (by decide))]; exact z5
    · rw [wI_ne hA (Or.inr (by decide))]; exact z6
    · rw [wI_ne hA (Or.inl (by omega))]; exact z8 k k1 k2 k3
    · rw [wI_ne hA (Or.inr (by decide))]; exact z7) (by
    rw [hi5]
    exact Fr_wI Fr_rf (Bk_in (by omega) (by omega))) ⟨hx5, hv5.1.2⟩ hv5.2
  obtain ⟨h6, f6⟩ := h6
  have F6 := Fr_tr F4 (Fr_tr f5 f6)
  have h6 : CR ad (wI M5 (ad ix) 0 (zn (ixD (rulO T tl (p + 3) (sAnt T tl (p + 1) σ))))) T tl (p + 4) (sAnt1 T tl p σ) := h6
  have hn6 : 1 ≤ yd_n (sgY (sAnt1 T tl p σ)) := hn5
  have hi6 : 38 + 5 + 2 * (yd_n (sgY (sAnt1 T tl p σ)) - 1) = ix := hi5
  refine c_clm (r_take hA hS hT h6 (k := 207) (by decide) (by decide)) ?_
  rintro M7 r ⟨a7, b7, f7⟩
  have F7 := Fr_tr F6 f7
  by_cases k7 : kdT T tl (p + 4) = 207
  rotate_left
  · obtain ⟨rfl, h7⟩ := b7 k7
    rw [pPre, if_neg (fun q => k7 (eQ_t.mp q))]
    exact c_t rfl (PL_no h7 F7)
  obtain ⟨rfl, h7⟩ := a7 k7
  rw [pPre, if_pos (eQ_t.mpr k7)]
  refine c_f (by decide) ?_
  rw [r_kind hS h7]
  refine c_cl (c_some (c_if (fun g8 => ?_) (fun g8 => ?_)))
  rotate_left
  · have g8 : ¬ kdT T tl (p + 4 + 1) = 3 := fun q => g8 ((zn_lit (kb _) (by decide)).mpr q)
    rw [pPre, if_neg (fun q => g8 (eQ_t.mp q))]
    exact PL_no h7 F7
  have g8 : kdT T tl (p + 4 + 1) = 3 := (zn_lit (kb _) (by decide)).mp g8
  rw [pPre, if_pos (eQ_t.mpr g8)]
  refine c_clm (r_range hA hS h7 g8 (lo := 0) (hi := 63) (by decide) (by decide)) ?_
  rintro M8 _ ⟨rfl, h8, f8⟩
  have F8 := Fr_tr F7 f8
  rw [r_kind hS h8]
  refine c_cl (c_some (c_if (fun g9 => ?_) (fun g9 => ?_)))
  rotate_left
  · have g9 : ¬ kdT T tl (p + 4 + 1 + 1) = 3 := fun q => g9 ((zn_lit (kb _) (by decide)).mpr q)
    rw [pPre, if_neg (fun q => g9 (eQ_t.mp q))]
    exact PL_no h8 F8
  have g9 : kdT T tl (p + 4 + 1 + 1) = 3 := (zn_lit (kb _) (by decide)).mp g9
  rw [pPre, if_pos (eQ_t.mpr g9)]
  refine c_clm (r_range hA hS h8 g9 (lo := 0) (hi := 63) (by decide) (by decide)) ?_
  rintro M9 _ ⟨rfl, h9, f9⟩
  have F9 := Fr_tr F8 f9
  have l1 : nRn 0 63 (numT T tl (p + 5)) ≤ 63 := nRn_le (by decide)
  have l2 : nRn 0 63 (numT T tl (p + 6)) ≤ 63 := nRn_le (by decide)
  generalize hσ : sRn 0 63 (numT T tl (p + 4 + 1 + 1)) (tkP T tl (p + 4 + 1 + 1)) (sRn 0 63 (numT T tl (p + 4 + 1)) (tkP T tl (p + 4 + 1)) (sAnt1 T tl p σ)) = σ9 at h9
  have en9 : yd_n (sgY σ9) = yd_n (sgY (sAnt1 T tl p σ)) := by rw [← hσ, sRn_n, sRn_n]
  have hn9 : 1 ≤ yd_n (sgY σ9) := by rw [en9]; exact hn6
  have hi9 : 38 + 5 + 2 * (yd_n (sgY σ9) - 1) = ix := by rw [en9]; exact hi6
  have hle9 := h9.2.2.2.1.2.1
  have hA9 := h9.1.2.2.1.2.2 (yd_n (sgY σ9) - 1) (by omega)
  have hv9 := h9.2.2.2.1.2.2 (yd_n (sgY σ9) - 1) (by omega)
  rw [← hi9]
  refine c_clm (cA_move hA hA9 (x := nRn 0 63 (numT T tl (p + 5))) (y := nRn 0 63 (numT T tl (p + 6)))) ?_
  rintro M10 _ ⟨hA10, f10⟩
  obtain ⟨h10, f10'⟩ := r_up hA h9 hn9 (f := anMove (nRn 0 63 (numT T tl (p + 5))) (nRn 0 63 (numT T tl (p + 6)))) hA10 f10 ⟨hv9.1.1, Nat.lt_succ_of_le l1, Nat.lt_succ_of_le l2, hv9.1.2.2.2⟩ (Nat.le_refl 0)
  have F10 := Fr_tr F9 f10'
  refine c_clm (r_take hA hS hT h10 (k := 208) (by decide) (by decide)) ?_
  rintro M11 r ⟨a11, b11, f11⟩
  have F11 := Fr_tr F10 f11
  by_cases k11 : kdT T tl (p + 4 + 1 + 1 + 1) = 208
  rotate_left
  · obtain ⟨rfl, h11⟩ := b11 k11
    rw [pPre, if_neg (fun q => k11 (eQ_t.mp q))]
    exact c_t rfl (PL_no h11 F11)
  obtain ⟨rfl, h11⟩ := a11 k11
  rw [pPre, if_pos (eQ_t.mpr k11)]
  refine c_f (by decide) ?_
  rw [r_isSide hS hT h11]
  refine c_cl (c_some ?_)
  by_cases k12 : 209 ≤ kdT T tl (p + 4 + 1 + 1 + 1 + 1) ∧ kdT T tl (p + 4 + 1 + 1 + 1 + 1) ≤ 212
  rotate_left
  · rw [if_neg k12, pPre, if_neg (fun q => k12 (qSide_t.mp q))]
    exact c_t rfl (PL_no h11 F11)
  rw [if_pos k12, pPre, if_pos (qSide_t.mpr k12), pPre]
  refine c_f (by decide) (c_clm (r_takeSide hA hS h11 k12.1) ?_)
  rintro M12 _ ⟨rfl, h12, f12⟩
  have F12 := Fr_tr F11 f12
  have hle12 := h12.2.2.2.1.2.1
  have hn12 : 1 ≤ yd_n (sgY (sUp (anMove (nRn 0 63 (numT T tl (p + 5))) (nRn 0 63 (numT T tl (p + 6)))) σ9)) := hn9
  have hA12 := h12.1.2.2.1.2.2 (yd_n (sgY σ9) - 1) (by show yd_n (sgY σ9) - 1 < yd_n (sgY σ9); omega)
  have hv12 := h12.2.2.2.1.2.2 (yd_n (sgY σ9) - 1) (by show yd_n (sgY σ9) - 1 < yd_n (sgY σ9); omega)
  refine c_clm (cA_face hA hA12 (s := kdT T tl (p + 8) - 209)) ?_
  rintro M13 _ ⟨hA13, f13⟩
  obtain ⟨h13, f13'⟩ := r_up hA h12 hn12 (f := anFace (kdT T tl (p + 8) - 209)) hA13 f13 (vA_face hv12.1 (by have : kdT T tl (p + 8) ≤ 212 := k12.2; omega)) (Nat.le_refl 0)
  rw [← hσ] at h13
  exact PL_ye h13 (Fr_tr F12 f13')
end Lines3
