/-! the class reads a list -/
def RF (ad : Nat → Nat) (b : Nat) : Prop := KF ad b ∨ PF ad b
def aS0 : aS := (aP0, aY0, fun _ => 0, fun _ => 0, 0, 0)
section ReadC
variable {G : gS} {ad : Nat → Nat} {T : Nat → Nat} {tl : Nat}
theorem r_readL (hA : Inj ad) (hS : Sh G ad) (hK : AK G ad) (hT : ∀ k, k < tl → T k < 256) : ∀ (d v f : Nat) (M0 M : mS) (σ : aS) (p : Nat), v + d = 400 → d < f → Fr (PF ad) M0 M → CR ad M T tl p σ → PostR ad T tl M0 (m_X2_read_35 G (ad 55) f M 1 (zn v)) (pAll T tl d p) (sAll T tl d p σ) := by
  intro d
  induction d with
  | zero =>
    intro v f M0 M σ p hv hf hF h
    obtain ⟨f, rfl⟩ : ∃ g, f = g + 1 := ⟨f - 1, by omega⟩
    rw [m_X2_read_35, if_pos (by rw [show (400 : Int32) = zn 400 from rfl, zn_le (by omega) (by omega)]; omega)]
    exact r_readE hA hS hF (fun _ => ⟨rfl, h⟩) (fun q => absurd q (by decide))
  | succ d ih =>
    intro v f M0 M σ p hv hf hF h
    obtain ⟨f, rfl⟩ : ∃ g, f = g + 1 := ⟨f - 1, by omega⟩
    have hb : kdT T tl p < 1000 := kdT_le hT
    rw [m_X2_read_35, if_neg (by rw [show (400 : Int32) = zn 400 from rfl, zn_le (by omega) (by omega)]; omega), if_neg (by decide), r_kind hS h, pAll, sAll]
    refine c_cl (c_some (c_if (fun g => ?_) (fun g => ?_)))
    · have g : kdT T tl p = 0 := (zn_lit hb (by decide)).mp g
      rw [if_pos g, if_pos g]
      exact r_readE hA hS hF (fun _ => ⟨rfl, h⟩) (fun q => absurd q (by decide))
    have g : ¬ kdT T tl p = 0 := fun q => g ((zn_lit hb (by decide)).mpr q)
    rw [if_neg g, if_neg g, r_kind hS h]
    refine c_cl (c_some (r_line hA hS hK hT (k0 := fun M v1 v2 => m_X2_read_35 G (ad 55) f M v1 v2) h g ?_))
    intro M1 f1
    refine ⟨fun e h1 => ?_, fun e h1 => ?_⟩
    · rw [if_pos e]
      exact ih (v + 1) f M0 M1 _ _ (by omega) (by omega) (Fr_tr hF f1) h1
    · rw [if_neg (by rw [e]; decide)]
      obtain ⟨f, rfl⟩ : ∃ g, f = g + 1 := ⟨f - 1, by omega⟩
      have e2 : pLnE T tl p = (false, (pLnE T tl p).2) := by rw [← e]
      rw [e2]
      show p_cl (m_X2_read_35 G (ad 55) (f + 1) M1 0 (zn (v + 1))) _
      have fin : PostR ad T tl M0 (m_X2_read_223 G (ad 55) M1 0) (false, (pLnE T tl p).2) (sAll T tl d (pLnE T tl p).2 (sLn T tl p σ)) := r_readE hA hS (Fr_tr hF f1) (fun q => absurd q (by decide)) (fun _ => ⟨rfl, h1⟩)
      rw [m_X2_read_35]
      exact c_if (fun _ => fin) (fun _ => c_t rfl fin)
theorem SV_0 : SV aS0 := ⟨⟨by decide, fun r hr => absurd hr (Nat.not_lt_zero r), fun _ _ => by show (0 : Nat) < 4; decide, by decide, by decide⟩, ⟨fun _ => by show (0 : Nat) < 6; decide, by decide, fun i hi => absurd hi (Nat.not_lt_zero i)⟩, ⟨fun _ => by show (0 : Nat) < 9223372036854775808; decide, fun _ => by show (0 : Nat) < 9223372036854775808; decide⟩, by decide⟩
/-- the list's end in the class: read through or not, where -/
def rdP (T : Nat → Nat) (tl : Nat) : Bool × Nat := pAll T tl 400 0
/-- what it does -/
def rdS (T : Nat → Nat) (tl : Nat) : aS := sAll T tl 400 0 aS0
theorem r_read (hA : Inj ad) (hS : Sh G ad) (hK : AK G ad) {M : mS} (htl : tl ≤ 2000) (hT : ∀ k, k < tl → T k < 256) (hc : cT ad M T tl) (hW : ∀ w, w < 33 → mJ M (ad 59) w = wdJ w) : p_cl (m_X2_read G M (ad 55)) (fun M' v => Fr (RF ad) M M' ∧ ((rdP T tl).1 = true → v = zn (sgE (rdS T tl)) ∧ CR ad M' T tl (rdP T tl).2 (rdS T tl)) ∧ ((rdP T tl).1 = false → v = 1 ∧ mI M' (ad 55) 7 = zn (tkP T tl (rdP T tl).2))) := by
  unfold m_X2_read
  refine c_rf (sh_q0 hS) (c_clm (c_scan hA hS htl hT hc hW) ?_)
  rintro M1 _ ⟨hk1, _, _, f1⟩
  refine c_rf (sh_q1 hS) (c_clm (c_clearP hA) ?_)
  rintro M2 _ ⟨hp2, f2⟩
  refine c_rf (sh_q2 hS) (c_clm (cY_clear hA (sh_Y38 hS)) ?_)
  rintro M3 _ ⟨hy3, f3⟩
  refine c_wI (c_wI ?_)
  have f4 : Fr (Bk ad 55 56) M3 (wI (wI M3 (ad 55) 5 0) (ad 55) 6 0) := Fr_wI (Fr_wI Fr_rf (Bk_in (by omega) (by omega))) (Bk_in (by omega) (by omega))
  have f3' : Fr (PF ad) M2 M3 := PF_Y f3 (by decide) (by decide)
  have h0 : CR ad (wI (wI M3 (ad 55) 5 0) (ad 55) 6 0) T tl 0 aS0 := by
    refine ⟨CR0_55 hA ⟨cK_PF hA (cK_PF hA hk1 (PF_P f2)) f3', cP_Fr hA hp2 f3 (by decide), hy3, fun j hj => absurd hj (Nat.not_lt_zero j), fun j hj => absurd hj (Nat.not_lt_zero j)⟩ (by decide) f4, ⟨?_, Nat.zero_le _, ?_, fun q => absurd rfl q⟩, SV_0⟩
    · rw [wI_ne hA (by decide), wI_eq]; rfl
    · rw [wI_eq]; rfl
  refine c_mono (r_readL hA hS hK hT 400 0 fu _ _ aS0 0 (by omega) (by unfold fu; omega) Fr_rf h0) ?_
  rintro M5 v ⟨f5, t5, n5⟩
  exact ⟨Fr_tr (Fr_mono f1 (fun _ q => Or.inl q)) (Fr_mono (Fr_tr (PF_P f2) (Fr_tr f3' (Fr_tr (PF_55 f4) f5))) (fun _ q => Or.inr q)), t5, fun e => ⟨(n5 e).1, (n5 e).2.1⟩⟩
end ReadC
