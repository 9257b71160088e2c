/-! the reference learns a list -/
section TeachM
variable {G : gS} {ad : Nat → Nat} {M : mS} {T : Nat → Nat} {tl : Nat}
theorem RF2_out (hA : Inj ad) {k : Nat} (h : usd k) (h70 : k ≠ 70) (h72 : ¬ (72 ≤ k ∧ k < 77)) : ¬ RF2 ad (ad k) := by
  have hk : k < 126 := by unfold usd at h; omega
  rintro (q | q | q)
  · exact h70 (hA _ _ q)
  · exact Bk_out hA (by omega) q
  · exact Bk_out hA (by omega) q
theorem n_read (hA : Inj ad) (hS : Sh G ad) (hU : Us G ad) (htl : tl ≤ 2000) (hT : ∀ k, k < tl → T k < 256) (hc : mT ad M T tl) {post : gS → mS → Int32 → Prop} (H : ∀ (G' : gS) (ad' : Nat → Nat) (M' : mS) (v : Int32), Inj ad' → (∀ k, usd k → ad' k = ad k) → Sh G' ad' → Us G' ad' → gP G' (ad' 70) 12 = some (ad' 126) → LSh G' ad' 126 → (∀ i, i < 16 → ad' (126 + i) ∈ gL G') → (∀ k, usd k → k ≠ 70 → ¬ (72 ≤ k ∧ k < 77) → mI M' (ad' k) = mI M (ad k) ∧ mJ M' (ad' k) = mJ M (ad k)) → (∀ i, i ≠ 3 → i ≠ 9 → i ≠ 10 → mI M' (ad' 70) i = mI M (ad 70) i) → RES ad' T tl (mI M (ad 70) 3) M' v → post G' M' v) : n_X12_read G M (ad 70) post := by
  unfold n_X12_read p_nw
  intro q hq
  have b0 := Bu_nw (Bu_00 (G := G) (M := M) (ad := ad) (V := fun _ _ => 0) (VJ := fun _ _ => 0)) hq (k := 126) List.not_mem_nil rfl rfl (ci := 9) (n := 0)
  refine n10 (l := 126) b0 List.mem_cons_self (if_pos rfl) (fun k hk => ?_) (fun t ht => absurd ht List.not_mem_nil) (fun k _ _ => ⟨rfl, rfl⟩) (fun G1 M1 ad1 f1 b1 => ?_)
  · rw [List.mem_singleton.mp hk]; decide
  have eq1 : ad1 126 = q := (f1 126 (by decide)).trans (if_pos rfl)
  refine q_sR ?_
  generalize hG2 : gSt G1 (ad 70) 12 q = G2
  have hUk : ∀ k ∈ nlU 126 [126] 15, 126 ≤ k ∧ k < 142 := fun k hk => by
    rcases (nlU_mem 15 k).mp hk with e | e
    · rw [List.mem_singleton.mp e]; decide
    · omega
  have hkU : ∀ k, 126 ≤ k → k < 142 → k ∈ nlU 126 [126] 15 := fun k h1 h2 => by
    refine (nlU_mem 15 k).mpr ?_
    by_cases e : k = 126
    · exact Or.inl (by rw [e]; exact List.mem_cons_self)
    · exact Or.inr (by omega)
  obtain ⟨ad2, hA2, e2, u2, b2⟩ := Bu_fresh b1 (ad0 := ad) (S := usd) (fun k l _ _ e => hA k l e) (fun k hk => hU.1 k hk) (fun k hk h => by have := hUk k hk; unfold usd at h; omega)
  have e70 : ad 70 = ad2 70 := (e2 70 (by decide)).symm
  have eq2 : ad2 126 = q := (u2 126 (hkU 126 (by decide) (by decide))).trans eq1
  have old : ∀ k, usd k → gP G1 (ad k) = gP G (ad k) ∧ gN G1 (ad k) = gN G (ad k) ∧ gK G1 (ad k) = gK G (ad k) ∧ ad k ∈ gL G1 ∧ mI M1 (ad k) = mI M (ad k) ∧ mJ M1 (ad k) = mJ M (ad k) := fun k hk => by
    obtain ⟨a1, a2, a3, a4, a5, a6⟩ := b1.1 (ad k) (hU.1 k hk)
    exact ⟨a4, a3, a2, a1, a5, a6⟩
  have eP : ∀ x, x ≠ ad 70 → gP G2 x = gP G1 x := fun x hx => by rw [← hG2]; exact up_ne hx
  have eN : gN G2 = gN G1 := by rw [← hG2]; rfl
  have eK : gK G2 = gK G1 := by rw [← hG2]; rfl
  have eL : gL G2 = gL G1 := by rw [← hG2]; rfl
  have e12 : gP G2 (ad 70) = va_up (gP G1 (ad 70)) 12 (some q) := by rw [← hG2]; exact up_eq
  have hL1 : LSh G1 ad2 126 := LSh_of b2 (fun i hi => nlF_mem 15 i hi) (fun i hi => nlN_mem 15 i hi)
  have hL2 : LSh G2 ad2 126 := LSh_ext hL1 (fun k h1 h2 => eP _ (by rw [e70]; exact ad_ne hA2 (by omega))) (fun k _ _ => by rw [eN])
  have hLo : LSh G2 ad2 110 := by
    refine LSh_mv (LSh_ext (G' := G2) (sh_L hS) (fun k h1 h2 => ?_) (fun k h1 h2 => ?_)) (fun i hi => e2 _ (by unfold usd; omega))
    · rw [eP _ (ad_ne hA (by omega))]; exact (old k (by unfold usd; omega)).1
    · rw [eN]; exact (old k (by unfold usd; omega)).2.1
  have h11 : KSh G2 ad2 := by
    unfold KSh
    rw [← e70, e12, up_ne (by decide), (old 70 (by decide)).1, e2 110 (by decide)]
    exact sh_K hS
  have hS2 : Sh G2 ad2 := Sh_re hS (fun k hk _ => e2 k hk) (fun k hk _ h70 => by rw [eP _ (ad_ne hA h70)]; exact (old k hk).1) (fun i h1 h2 => by rw [e12, up_ne h2, (old 70 (by decide)).1]) (fun k hk _ => by rw [eN]; exact (old k hk).2.1) h11 hLo (by rw [← e70, eK, (old 70 (by decide)).2.2.1]; exact sh_g70 hS)
  have hU2 : Us G2 ad2 := ⟨fun k hk => by rw [e2 k hk, eL]; exact (old k hk).2.2.2.1, by rw [e2 0 (by decide), eK, (old 0 (by decide)).2.2.1]; exact hU.2⟩
  have h12 : gP G2 (ad2 70) 12 = some (ad2 126) := by rw [← e70, e12, eq2]; exact up_eq
  have hz : ∀ k, 126 ≤ k → k < 142 → mI M1 (ad2 k) = fun _ => 0 := fun k h1 h2 => Bu_I b2 (hkU k h1 h2)
  have hc1 : mT ad2 M1 T tl := by
    refine ⟨?_, fun k hk => ?_⟩
    · rw [← e70, (old 70 (by decide)).2.2.2.2.1]; exact hc.1
    · rw [e2 71 (by decide), (old 71 (by decide)).2.2.2.2.1]; exact hc.2 k hk
  have e3 : mI M1 (ad2 70) = mI M (ad 70) := by rw [← e70]; exact (old 70 (by decide)).2.2.2.2.1
  clear hG2
  rw [e70]
  refine m_readQ hA2 hS2 h12 hL2 htl hT hc1 hz (post := post) (fun M' v F h70 hr => ?_)
  rw [e3] at h70 hr
  refine H G2 ad2 M' v hA2 e2 hS2 hU2 h12 hL2 (fun i hi => ?_) (fun k hk k70 k72 => ?_) h70 hr
  · rw [eL]
    exact (b2.2.1 _ (hkU _ (by omega) (by omega))).1
  · have ho := RF2_out hA2 hk k70 k72
    obtain ⟨_, _, _, _, o5, o6⟩ := old k hk
    rw [F.1 _ ho, F.2 _ ho, e2 k hk]
    exact ⟨o5, o6⟩
theorem mP_keep {M' : mS} {P : aP} {n : Nat} {ru : Nat → Nat} (h : mP ad M P n ru) (hI : ∀ k, 110 ≤ k → k < 126 → mI M' (ad k) = mI M (ad k)) : mP ad M' P n ru := by
  unfold mP
  rw [hI 110 (by decide) (by decide), hI (110 + 1) (by decide) (by decide), hI (110 + 2) (by decide) (by decide), hI (110 + 4) (by decide) (by decide), hI (110 + 9) (by decide) (by decide), hI (110 + 10) (by decide) (by decide), hI (110 + 11) (by decide) (by decide), hI (110 + 12) (by decide) (by decide), hI (110 + 13) (by decide) (by decide), hI (110 + 14) (by decide) (by decide)]
  exact h
/-- the plan that was read takes the place of the plan that stood -/
def swp (k : Nat) : Nat := if 110 ≤ k ∧ k < 126 then k + 16 else if 126 ≤ k ∧ k < 142 then k - 16 else k
theorem swp_inj {k l : Nat} (h : swp k = swp l) : k = l := by
  unfold swp at h
  split at h
  · split at h
    · omega
    · split at h <;> omega
  · split at h
    · split at h
      · omega
      · split at h <;> omega
    · split at h
      · omega
      · split at h <;> omega
theorem n_teach (hA : Inj ad) (hS : Sh G ad) (hU : Us G ad) (htl : tl ≤ 2000) (hT : ∀ k, k < tl → T k < 256) {Y : aY} {P : aP} {ea : Int32} (hm : MA ad M Y P T tl ea) {post : gS → mS → Int32 → Prop} (H : ∀ (G' : gS) (ad' : Nat → Nat) (M' : mS), Inj ad' → (∀ k, k < 110 → usd k → ad' k = ad k) → Sh G' ad' → Us G' ad' → MA ad' M' (tcY T tl Y) (tcP T tl P) T 0 (tcA T tl) → (tcE T tl = 0 → VI (rdS T tl) ∧ BB (rdS T tl) ∧ off (pg_T (sgP (rdS T tl))) (pg_o (sgP (rdS T tl))) ≤ 400 ∧ YI (sgY (rdS T tl))) → (∀ k, k < 66 → mI M' (ad' k) = mI M (ad k) ∧ mJ M' (ad' k) = mJ M (ad k)) → post G' M' (zn (tcE T tl))) : n_X12_teach G M (ad 70) post := by
  have h6 := tcE_6 (T := T) (tl := tl)
  unfold n_X12_teach
  refine q_wI (q_wI ?_)
  generalize hM2 : wI (wI M (ad 70) 0 0) (ad 70) 3 (-1) = M2
  have k2 : ∀ k, k ≠ 70 → mI M2 (ad k) = mI M (ad k) ∧ mJ M2 (ad k) = mJ M (ad k) := fun k hk => by
    rw [← hM2]
    exact ⟨by rw [mI_wI, if_neg (ad_ne hA hk), mI_wI, if_neg (ad_ne hA hk)], rfl⟩
  have k22 : mI M2 (ad 70) 2 = zn tl := by
    rw [← hM2, wI_ne hA (Or.inr (by decide)), wI_ne hA (Or.inr (by decide))]; exact hm.2.2.1
  have k23 : mI M2 (ad 70) 3 = -1 := by rw [← hM2]; exact wI_eq
  clear hM2
  refine n_read hA hS hU htl hT ⟨k22, fun k hk => by rw [(k2 71 (by decide)).1]; exact hm.2.2.2.1 k hk⟩ (fun G' ad' M' v iA he iS iU i12 iL iLg ik i70 hr => ?_)
  obtain ⟨rfl, r1, r0⟩ := hr
  have e70 : ad 70 = ad' 70 := (he 70 (by decide)).symm
  rw [e70]
  refine q_wI ?_
  have low : ∀ k, k < 66 → mI (wI M' (ad' 70) 2 0) (ad' k) = mI M (ad k) ∧ mJ (wI M' (ad' 70) 2 0) (ad' k) = mJ M (ad k) := fun k hk => by
    obtain ⟨a1, a2⟩ := ik k (by unfold usd; omega) (by omega) (by omega)
    obtain ⟨b1, b2⟩ := k2 k (by omega)
    refine ⟨?_, ?_⟩
    · rw [mI_wI, if_neg (ad_ne iA (by omega)), a1, b1]
    · exact a2.trans b2
  by_cases g : tcE T tl = 0
  · obtain ⟨s3, sP, sC, sA, sV, sB, sO, sY⟩ := r0 g
    refine q_t (by rw [g]; decide) (q_rf i12 (q_sR ?_))
    generalize hG3 : gSt G' (ad' 70) 11 (ad' 126) = G3
    have eP : ∀ x, x ≠ ad' 70 → gP G3 x = gP G' x := fun x hx => by rw [← hG3]; exact up_ne hx
    have eN : gN G3 = gN G' := by rw [← hG3]; rfl
    have eK : gK G3 = gK G' := by rw [← hG3]; rfl
    have eL : gL G3 = gL G' := by rw [← hG3]; rfl
    have e11 : gP G3 (ad' 70) = va_up (gP G' (ad' 70)) 11 (some (ad' 126)) := by rw [← hG3]; exact up_eq
    obtain ⟨ad2, hd⟩ : ∃ a : Nat → Nat, ∀ k, a k = ad' (swp k) := ⟨_, fun _ => rfl⟩
    have d1 : ∀ k, ¬ (110 ≤ k ∧ k < 142) → ad2 k = ad' k := fun k hk => by
      rw [hd]; unfold swp; rw [if_neg (by omega), if_neg (by omega)]
    have d2 : ∀ i, i < 16 → ad2 (110 + i) = ad' (126 + i) := fun i hi => by
      rw [hd]; unfold swp; rw [if_pos (by omega)]
      exact congrArg ad' (by omega)
    have hA2 : Inj ad2 := fun k l e => by
      rw [hd, hd] at e
      exact swp_inj (iA _ _ e)
    have d70 : ad2 70 = ad' 70 := d1 70 (by decide)
    have hL2 : LSh G3 ad2 110 := LSh_mv (LSh_ext (G' := G3) iL (fun k h1 h2 => eP _ (ad_ne iA (by omega))) (fun k _ _ => by rw [eN])) d2
    have h11 : KSh G3 ad2 := by
      unfold KSh
      rw [d70, e11, show ad2 110 = ad' 126 from d2 0 (by decide)]
      exact up_eq
    have hS2 : Sh G3 ad2 := Sh_re iS (fun k hk hn => d1 k (by unfold usd at hk; omega)) (fun k hk hn h70 => eP _ (ad_ne iA h70)) (fun i h1 h2 => by rw [e11, up_ne h1]) (fun k hk _ => by rw [eN]) h11 hL2 (by rw [d70, eK]; exact sh_g70 iS)
    have hU2 : Us G3 ad2 := by
      refine ⟨fun k hk => ?_, by rw [d1 0 (by decide), eK]; exact iU.2⟩
      rw [eL]
      by_cases q : 110 ≤ k ∧ k < 126
      · obtain ⟨i, rfl⟩ : ∃ i, k = 110 + i := ⟨k - 110, by omega⟩
        rw [d2 i (by omega)]
        exact iLg i (by omega)
      · rw [d1 k (by unfold usd at hk; omega)]
        exact iU.1 k hk
    clear hG3
    have e80 : gP G3 (ad' 70) 13 = some (ad2 80) := by
      rw [← d70]
      exact sh_m13 hS2
    refine q_rf e80 ?_
    generalize hM4 : wI M' (ad' 70) 2 0 = M4 at low ⊢
    have k4 : ∀ k, k ≠ 70 → mI M4 (ad' k) = mI M' (ad' k) := fun k hk => by rw [← hM4, mI_wI, if_neg (ad_ne iA hk)]
    have k42 : mI M4 (ad' 70) 2 = 0 := by rw [← hM4]; exact wI_eq
    have k43 : mI M4 (ad' 70) 3 = -1 := by rw [← hM4, wI_ne iA (Or.inr (by decide)), s3]; exact k23
    clear hM4
    refine c_mono (m_begin hA2 (sh_S80 hS2) (sh_K hS2) (sh_L hS2) (Y := sgY (rdS T tl)) (M := M4) sB.2.2.2 sY (fun q hq => ?_) (fun i hi => ?_)) ?_
    · rw [show ad2 118 = ad' 134 from d2 8 (by decide), k4 134 (by decide)]; exact sC q hq
    · rw [show ad2 115 = ad' 131 from d2 5 (by decide), show ad2 116 = ad' 132 from d2 6 (by decide), show ad2 117 = ad' 133 from d2 7 (by decide), k4 131 (by decide), k4 132 (by decide), k4 133 (by decide)]
      exact sA i hi
    · rintro M8 _ ⟨y8, F8⟩
      have o8 : ∀ k, (k < 80 ∨ 92 ≤ k) → mI M8 (ad2 k) = mI M4 (ad2 k) := fun k hk => Fr_I hA2 F8 (by omega)
      have res := H G3 ad2 M8 hA2 (fun k hk hu => by rw [d1 k (by omega), he k hu]) hS2 hU2 ?_ (fun _ => ⟨sV, sB, sO, sY⟩) (fun k hk => ?_)
      · rw [g] at res
        exact res
      · unfold tcY tcP tcA
        rw [if_pos g, if_pos g, if_pos g]
        refine ⟨y8, ?_, ?_, fun k hk => absurd hk (Nat.not_lt_zero k), ?_⟩
        · refine mP_keep (M := M') (mP_ad sP d2) (fun k h1 h2 => ?_)
          obtain ⟨i, rfl⟩ : ∃ i, k = 110 + i := ⟨k - 110, by omega⟩
          rw [o8 _ (by omega), d2 i (by omega), k4 _ (by omega)]
        · rw [o8 70 (by decide), d70]; exact k42
        · rw [o8 70 (by decide), d70]; exact k43
      · rw [o8 k (by omega), Fr_J hA2 F8 (by omega), d1 k (by omega)]
        exact low k hk
  · refine q_f (by rw [show (0 : Int32) = zn 0 from rfl, zn_le (by omega) (by omega)]; omega) ?_
    refine H G' ad' _ iA (fun k _ hu => he k hu) iS iU ?_ (fun q => absurd q g) low
    unfold tcY tcP tcA
    rw [if_neg g, if_neg g, if_neg g]
    have hm' : MA ad' M Y P T tl ea := MA_ad hm (fun k _ _ hu => he k hu)
    have kk : ∀ k, usd k → k ≠ 70 → ¬ (72 ≤ k ∧ k < 77) → mI (wI M' (ad' 70) 2 0) (ad' k) = mI M (ad' k) := fun k hu h1 h2 => by
      rw [mI_wI, if_neg (ad_ne iA h1), (ik k hu h1 h2).1, (k2 k h1).1, he k hu]
    refine ⟨mY_keep hm'.1 (fun k h1 h2 => kk k (by unfold usd; omega) (by omega) (by omega)), mP_keep hm'.2.1 (fun k h1 h2 => kk k (by unfold usd; omega) (by omega) (by omega)), wI_eq, fun k hk => absurd hk (Nat.not_lt_zero k), ?_⟩
    rw [wI_ne iA (Or.inr (by decide))]
    exact r1 g
end TeachM
