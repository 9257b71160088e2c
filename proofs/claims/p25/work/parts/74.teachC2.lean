/-! the class's teach -/
/-- the answer of teach: 0 or the error; its place; the program and the yard taken -/
def tcE (T : Nat → Nat) (tl : Nat) : Nat := if (rdP T tl).1 then sgE (rdS T tl) else 1
def tcL (T : Nat → Nat) (tl : Nat) : Nat := if (rdP T tl).1 then sgL (rdS T tl) else tkP T tl (rdP T tl).2
def tcA (T : Nat → Nat) (tl : Nat) : Int32 := if tcE T tl = 0 then -1 else zn (tcL T tl)
def tcY (T : Nat → Nat) (tl : Nat) (Y : aY) : aY := if tcE T tl = 0 then sgY (rdS T tl) else Y
def tcP (T : Nat → Nat) (tl : Nat) (P : aP) : aP := if tcE T tl = 0 then sgP (rdS T tl) else P
section TeachC2
variable {G : gS} {ad : Nat → Nat} {T : Nat → Nat} {tl : Nat}
theorem RF_out (hA : Inj ad) {k : Nat} (h : k < 12 ∨ (21 ≤ k ∧ k < 38) ∨ k = 59) : ¬ RF ad (ad k) := by
  rintro (q | q)
  · exact KF_out hA (by omega) (by omega) q
  · rcases q with q | q
    · exact Bk_out hA (by omega) q
    · exact Bk_out hA (by omega) q
theorem RF_70 {M M' : mS} (h : Fr (RF ad) M M') : Fr (Bk ad 0 66) M M' := by
  refine Fr_mono h (fun b q => ?_)
  rcases q with (rfl | q) | (q | q)
  · exact Bk_in (by decide) (by decide)
  · exact Bk_sub (by decide) (by decide) q
  · exact Bk_sub (by decide) (by decide) q
  · exact Bk_sub (by decide) (by decide) q
theorem c_teach (hA : Inj ad) (hS : Sh G ad) (hK : AK G ad) {M : mS} {Y : aY} {P : aP} {ea : Int32} (htl : tl ≤ 2000) (hT : ∀ k, k < tl → T k < 256) (hn : yd_n Y ≤ 6) (hc : CA ad M Y P T tl ea) : p_cl (m_X9_teach G M (ad 0)) (fun M' r => r = zn (tcE T tl) ∧ CA ad M' (tcY T tl Y) (tcP T tl P) T 0 (tcA T tl) ∧ Fr (Bk ad 0 66) M M') := by
  unfold m_X9_teach
  refine c_rf (sh_x4 hS) (c_clm (r_read hA hS hK htl hT ⟨hc.2.2.1, hc.2.2.2.1⟩ hc.2.2.2.2.1) ?_)
  rintro M1 r ⟨f1, t1, n1⟩
  have hc1 : CA ad M1 Y P T tl ea := CA_keep hn hc (fun k hk => f1.1 _ (RF_out hA (by omega))) (f1.2 _ (RF_out hA (by decide)))
  -- the end of teach, with nothing taken over
  have noth : ∀ (v1 s1 : Int32), ¬ v1 = 0 → v1 = zn (tcE T tl) → tcE T tl ≠ 0 → s1 = zn (tcL T tl) → p_cl (m_X9_teach_24 G (ad 0) M1 v1 s1) (fun M' r => r = zn (tcE T tl) ∧ CA ad M' (tcY T tl Y) (tcP T tl P) T 0 (tcA T tl) ∧ Fr (Bk ad 0 66) M M') := fun v1 s1 h0 hv he hs => by
    unfold m_X9_teach_24 m_X9_teach_64 tcY tcP tcA
    rw [if_neg he, if_neg he, if_neg he]
    refine c_wI (c_rf (sh_x0 hS) (c_wI (c_f h0 (c_some ⟨hv, ?_, ?_⟩))))
    · obtain ⟨h1, h2, h3, h4, h5, h6⟩ := hc1
      have fx : Fr (Bk ad 0 2) M1 (wI (wI M1 (ad 0) 6 s1) (ad 1) 1 0) := Fr_wI (Fr_wI Fr_rf (Bk_in (by omega) (by omega))) (Bk_in (by omega) (by omega))
      refine ⟨cY_Fr hA h1 hn fx (by decide), cP_Fr hA h2 fx (by decide), wI_eq, fun k hk => absurd hk (Nat.not_lt_zero k), fun w hw => ?_, ?_⟩
      · rw [Fr_J hA fx (by decide)]; exact h5 w hw
      · rw [wI_ne hA (by decide), wI_eq]; exact hs
    · exact Fr_wI (Fr_wI (RF_70 f1) (Bk_in (by omega) (by omega))) (Bk_in (by omega) (by omega))
  cases e : (rdP T tl).1
  · obtain ⟨rfl, h7⟩ := n1 e
    have e1 : tcE T tl = 1 := by unfold tcE; rw [e]; rfl
    have e2 : tcL T tl = tkP T tl (rdP T tl).2 := by unfold tcL; rw [e]; rfl
    refine c_f (by decide) (c_rf (sh_x4 hS) (noth 1 _ (by decide) (by rw [e1]; rfl) (by rw [e1]; decide) (by rw [e2]; exact h7)))
  · obtain ⟨rfl, h2⟩ := t1 e
    have e1 : tcE T tl = sgE (rdS T tl) := by unfold tcE; rw [e]; rfl
    have e2 : tcL T tl = sgL (rdS T tl) := by unfold tcL; rw [e]; rfl
    have h5 := h2.2.2.2.2.2
    refine c_if (fun g => ?_) (fun g => ?_)
    · rw [show (0 : Int32) = zn 0 from rfl, zn_inj (by omega) (by omega)] at g
      have g1 : tcE T tl = 0 := by rw [e1]; exact g
      obtain ⟨⟨k1, k2, k3, k4, k5⟩, k6, ⟨v1, v2, v3, v4, v5⟩, v6, v7⟩ := h2
      unfold m_X9_teach_24 m_X9_teach_64 tcY tcP tcA
      rw [if_pos g1, if_pos g1, if_pos g1, g1, g]
      have fx : Fr (Bk ad 0 2) M1 (wI (wI M1 (ad 0) 6 (-1)) (ad 1) 1 0) := Fr_wI (Fr_wI Fr_rf (Bk_in (by omega) (by omega))) (Bk_in (by omega) (by omega))
      refine c_wI (c_rf (sh_x0 hS) (c_wI (c_t rfl (c_rf (sh_x1 hS) (c_rf (sh_x4 hS) (c_rf (sh_q1 hS) (c_clm (c_copyP hA (sh_P3 hS) (sh_P12 hS) (cP_Fr hA k2 fx (by decide)) v1 v2 v4 v5) ?_)))))))
      rintro M2 _ ⟨h3, f3⟩
      refine c_rf (sh_x2 hS) (c_rf (sh_x3 hS) (c_clm (cY_copy hA (sh_Y21 hS) (sh_Y38 hS) (by decide) v6 (cY_Fr hA (cY_Fr hA k3 v6.2.1 fx (by decide)) v6.2.1 f3 (by decide))) ?_))
      rintro M3 _ ⟨h4, f4⟩
      refine c_some ⟨rfl, ⟨h4, cP_Fr hA h3 f4 (by decide), ?_, fun k hk => absurd hk (Nat.not_lt_zero k), fun w hw => ?_, ?_⟩, Fr_tr (RF_70 f1) (Fr_tr (Fr_sub fx (by decide) (by decide)) (Fr_tr (Fr_sub f3 (by decide) (by decide)) (Fr_sub f4 (by decide) (by decide))))⟩
      · rw [Fr_I hA f4 (by decide), Fr_I hA f3 (by decide), wI_eq]; rfl
      · rw [Fr_J hA f4 (by decide), Fr_J hA f3 (by decide), Fr_J hA fx (by decide)]
        exact hc1.2.2.2.2.1 w hw
      · rw [Fr_I hA f4 (by decide), Fr_I hA f3 (by decide), wI_ne hA (by decide), wI_eq]
    · rw [show (0 : Int32) = zn 0 from rfl, zn_inj (by omega) (by omega)] at g
      refine c_rf (sh_x4 hS) (noth _ _ (by rw [show (0 : Int32) = zn 0 from rfl, zn_inj (by omega) (by omega)]; exact g) (by rw [e1]) (by rw [e1]; exact g) ?_)
      rw [e2]
      exact h2.2.1.2.2.2 g
end TeachC2
