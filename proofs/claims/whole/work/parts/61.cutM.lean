/-! tokens: the reference's rows of them -/
def mK0 (ad : Nat → Nat) (M : mS) (T : Nat → Nat) (tl i : Nat) : Prop := ∀ j, j < i → mI M (ad 72) j = zn (kr (kd0 T tl j)) ∧ mI M (ad 73) j = zn (tkP T tl j) ∧ mI M (ad 74) j = zn (lnT T tl j) ∧ mI M (ad 75) j = 0 ∧ mI M (ad 76) j = 0
def mK (ad : Nat → Nat) (M : mS) (T : Nat → Nat) (tl : Nat) : Prop := (∀ j, j ≤ nT T tl → mI M (ad 72) j = zn (kr (kdT T tl j)) ∧ mI M (ad 73) j = zn (tkP T tl j) ∧ mI M (ad 75) j = 0 ∧ mI M (ad 76) j = 0) ∧ ∀ j, j < nT T tl → mI M (ad 74) j = zn (lnT T tl j)
section CutM
variable {G : gS} {ad : Nat → Nat} {M : mS} {T : Nat → Nat} {tl : Nat}
theorem mT_Fr (hA : Inj ad) {lo hi : Nat} {M' : mS} (h : mT ad M T tl) (hF : Fr (Bk ad lo hi) M M') (hd : 71 < lo ∨ hi ≤ 70) : mT ad M' T tl := by
  unfold mT
  rw [Fr_I hA hF (k := 70) (by omega), Fr_I hA hF (k := 71) (by omega)]
  exact h
/-- the end of a word or of a number -/
theorem m_end (hA : Inj ad) (hS : Sh G ad) (hc : mT ad M T tl) (htl : tl ≤ 2000) (hT : ∀ k, k < tl → T k < 256) {i : Nat} (hi : i ≤ 400) (hp : tkP T tl i < tl) (hk : lB (T (tkP T tl i)) = true ∨ dB (T (tkP T tl i)) = true) {e : Nat} (he : e = rnE T tl (lB (T (tkP T tl i))) (tkP T tl i)) : p_cl (m_X12_kindAt_71 G (ad 70) (zn (tkP T tl i)) (zn i) M (zn (T (tkP T tl i))) (zn e)) (fun M' r => r = zn (kr (kd0 T tl i)) ∧ M' = wI M (ad 74) i (zn (e - tkP T tl i)) ∧ (2 ≤ kd0 T tl i → e = (tkE T tl (tkP T tl i)).2)) := by
  have hb := hT _ hp
  have r := rnF_ge (T := T) (tl := tl) (w := lB (T (tkP T tl i))) 2001 (tkP T tl i + 1)
  have hle := r.2.1 (by omega)
  rw [show rnF T tl (lB (T (tkP T tl i))) 2001 (tkP T tl i + 1) = e from he.symm] at r hle
  have hF : Fr (Bk ad 74 75) M (wI M (ad 74) i (zn (e - tkP T tl i))) := Fr_wI Fr_rf (Bk_in (by omega) (by omega))
  have hc1 := mT_Fr hA hc hF (by omega)
  unfold m_X12_kindAt_71
  rw [zn_sub (by omega)]
  refine c_rf (sh_m6 hS) (c_ix (by rw [sh_mn6 hS]; exact zn_in (by omega) (by decide)) (c_wI ?_))
  rw [zn_nat (show i < 2147483648 by omega), m_isLetter (by omega)]
  refine c_cl (c_some ?_)
  by_cases h1 : lB (T (tkP T tl i)) = true
  · rw [if_pos h1]
    have eE : (tkE T tl (tkP T tl i)) = if e - tkP T tl i ≤ 10 then (kwK (pkN T (tkP T tl i) (e - tkP T tl i)), e) else (1, tkP T tl i) := by
      unfold tkE
      rw [h1] at he
      rw [if_neg (by omega), if_pos h1, ← he]
    refine c_f (by decide) ?_
    unfold m_X12_kindAt_99
    refine c_if (fun g => ?_) (fun g => ?_)
    · rw [show (10 : Int32) = zn 10 from rfl, zn_le (by omega) (by decide)] at g
      rw [if_pos g] at eE
      rw [m_isLetter (by omega), if_pos h1]
      have hlw := lw_all h1 hp hT
      rw [h1] at he
      rw [← he] at hlw
      refine c_cl (c_some (c_f (by decide) ?_))
      rw [zn_sub (by omega), m_word hS hc1 htl hT (by omega) hlw]
      refine c_cl (c_some (c_some ⟨?_, rfl, fun _ => by rw [eE]⟩))
      unfold kd0
      rw [eE]
    · rw [show (10 : Int32) = zn 10 from rfl, zn_le (by omega) (by decide)] at g
      rw [if_neg g] at eE
      have hkd : kd0 T tl i = 1 := by unfold kd0; rw [eE]
      exact c_some ⟨by rw [hkd]; rfl, rfl, fun q => by omega⟩
  · rw [if_neg h1]
    have h2 : dB (T (tkP T tl i)) = true := hk.resolve_left h1
    have h1f : lB (T (tkP T tl i)) = false := by simpa using h1
    have eE : (tkE T tl (tkP T tl i)) = if e - tkP T tl i ≤ 6 then (3, e) else (1, tkP T tl i) := by
      unfold tkE
      rw [h1f] at he
      rw [if_neg (by omega), if_neg h1, if_pos h2, ← he]
    refine c_t rfl ?_
    unfold m_X12_kindAt_99
    refine c_if (fun g => ?_) (fun g => ?_)
    · rw [show (6 : Int32) = zn 6 from rfl, zn_le (by omega) (by decide)] at g
      rw [if_pos g] at eE
      rw [m_isLetter (by omega), if_neg h1]
      have hkd : kd0 T tl i = 3 := by unfold kd0; rw [eE]
      exact c_cl (c_some (c_t rfl (c_some ⟨by rw [hkd]; rfl, rfl, fun _ => by rw [eE]⟩)))
    · rw [show (6 : Int32) = zn 6 from rfl, zn_le (by omega) (by decide)] at g
      rw [if_neg g] at eE
      have hkd : kd0 T tl i = 1 := by unfold kd0; rw [eE]
      exact c_some ⟨by rw [hkd]; rfl, rfl, fun q => by omega⟩
theorem m_run_loop (hS : Sh G ad) (hc : mT ad M T tl) (htl : tl ≤ 2000) (hT : ∀ k, k < tl → T k < 256) {b : Nat} (hb : b < 256) {c1 c2 : Int32} : ∀ (d q f : Nat), tl < d + q → d < f → q ≤ 5000 → d ≤ 3000 → m_X12_kindAt_34 G (ad 70) c1 c2 f M (zn b) (zn q) = m_X12_kindAt_71 G (ad 70) c1 c2 M (zn b) (zn (rnF T tl (lB b) d q)) := by
  intro d
  induction d with
  | zero =>
    intro q f hd hf hq _
    obtain ⟨f, rfl⟩ : ∃ g, f = g + 1 := ⟨f - 1, by omega⟩
    rw [m_X12_kindAt_34, m_byteOf hS hc htl (by omega), rnF]
    unfold o_cl
    dsimp only
    rw [m_isD_at hT, show bt T tl q = 999 by unfold bt; rw [if_neg (by omega)]]
    dsimp only
    rw [if_neg (show ¬ dB 999 = true by decide), if_pos rfl, m_isLetter (by omega)]
    dsimp only
    by_cases h : lB b = true
    · rw [if_pos h, if_neg (by decide), m_byteOf hS hc htl (by omega)]
      dsimp only
      rw [m_isL_at hT, show bt T tl q = 999 by unfold bt; rw [if_neg (by omega)]]
      dsimp only
      rw [if_neg (show ¬ lB 999 = true by decide), if_pos rfl]
    · rw [if_neg h, if_pos rfl]
  | succ d ih =>
    intro q f hd hf hq hdd
    obtain ⟨f, rfl⟩ : ∃ g, f = g + 1 := ⟨f - 1, by omega⟩
    have next := ih (q + 1) f (by omega) (by omega)
    rw [m_X12_kindAt_34, m_byteOf hS hc htl (by omega), rnF]
    unfold o_cl
    dsimp only
    rw [m_isD_at hT]
    dsimp only
    have hq2 : ∀ w : Bool, wB w (bt T tl q) = true → q + 1 ≤ 5000 := by
      intro w hw
      by_cases e : q < tl
      · omega
      · unfold bt at hw
        rw [if_neg e] at hw
        cases w <;> exact absurd hw (by decide)
    by_cases h1 : dB (bt T tl q) = true
    · have hw : wB (lB b) (bt T tl q) = true := by unfold wB; rw [h1]; rfl
      rw [if_pos h1, if_neg (by decide), if_pos hw]
      unfold m_X12_kindAt_65 o_bd
      rw [zn_one]
      exact next (hq2 _ hw) (by omega)
    · rw [if_neg h1, if_pos rfl, m_isLetter (by omega)]
      dsimp only
      by_cases h2 : lB b = true
      · rw [if_pos h2, if_neg (by decide), m_byteOf hS hc htl (by omega)]
        dsimp only
        rw [m_isL_at hT]
        dsimp only
        by_cases h3 : lB (bt T tl q) = true
        · have hw : wB (lB b) (bt T tl q) = true := by unfold wB; rw [h2, h3]; simp
          rw [if_pos h3, if_neg (by decide), if_pos hw]
          unfold m_X12_kindAt_65 o_bd
          rw [zn_one]
          exact next (hq2 _ hw) (by omega)
        · rw [if_neg h3, if_pos rfl, if_neg (show ¬ wB (lB b) (bt T tl q) = true by unfold wB; simp [h1, h3])]
      · rw [if_neg h2, if_pos rfl, if_neg (show ¬ wB (lB b) (bt T tl q) = true by unfold wB; simp [h1, h2])]
theorem m_kindAt (hA : Inj ad) (hS : Sh G ad) (hc : mT ad M T tl) (htl : tl ≤ 2000) (hT : ∀ k, k < tl → T k < 256) {i : Nat} (hi : i ≤ 400) (hle : tkP T tl i ≤ tl) : p_cl (m_X12_kindAt G M (ad 70) (zn (tkP T tl i)) (zn i)) (fun M' r => r = zn (kr (kd0 T tl i)) ∧ (M' = M ∨ ∃ v, M' = wI M (ad 74) i v) ∧ (2 ≤ kd0 T tl i → mI M' (ad 74) i = zn (lnT T tl i))) := by
  unfold m_X12_kindAt
  rw [m_byteOf hS hc htl (by omega)]
  refine c_cl (c_some (c_bd ?_))
  rw [zn_one]
  by_cases hp : tkP T tl i < tl
  · have hb := hT _ hp
    rw [if_pos hp]
    refine c_f (fun g => by
      have h0 : ¬ zn (T (tkP T tl i)) < 0 := zn_nn (by omega)
      rw [g] at h0
      exact h0 (by decide)) ?_
    rw [m_isLetter (by omega)]
    have run : (lB (T (tkP T tl i)) = true ∨ dB (T (tkP T tl i)) = true) → p_cl (m_X12_kindAt_34 G (ad 70) (zn (tkP T tl i)) (zn i) fu M (zn (T (tkP T tl i))) (zn (tkP T tl i + 1))) (fun M' r => r = zn (kr (kd0 T tl i)) ∧ (M' = M ∨ ∃ v, M' = wI M (ad 74) i v) ∧ (2 ≤ kd0 T tl i → mI M' (ad 74) i = zn (lnT T tl i))) := by
      intro hk
      rw [m_run_loop hS hc htl hT hb 2001 (tkP T tl i + 1) fu (by omega) (by unfold fu; omega) (by omega) (by omega)]
      refine c_mono (m_end hA hS hc htl hT hi hp hk (e := rnE T tl (lB (T (tkP T tl i))) (tkP T tl i)) rfl) ?_
      rintro M1 r ⟨rfl, rfl, h3⟩
      refine ⟨rfl, Or.inr ⟨_, rfl⟩, fun h => ?_⟩
      rw [mI_wI, if_pos rfl, upd_at, if_pos rfl]
      unfold lnT
      rw [← h3 h]
    refine c_cl (c_some ?_)
    by_cases h1 : lB (T (tkP T tl i)) = true
    · rw [if_pos h1]
      exact c_f (by decide) (run (Or.inl h1))
    · rw [if_neg h1]
      refine c_t rfl ?_
      rw [m_isDigit (by omega)]
      refine c_cl (c_some ?_)
      by_cases h2 : dB (T (tkP T tl i)) = true
      · rw [if_pos h2]
        exact c_f (by decide) (run (Or.inr h2))
      · rw [if_neg h2]
        refine c_t rfl ?_
        have e60 : (zn (T (tkP T tl i)) = 60) ↔ T (tkP T tl i) = 60 := zn_inj (b := 60) (by omega) (by decide)
        have e62 : (zn (T (tkP T tl i)) = 62) ↔ T (tkP T tl i) = 62 := zn_inj (b := 62) (by omega) (by decide)
        have eE : tkE T tl (tkP T tl i) = if (T (tkP T tl i) = 60 ∨ T (tkP T tl i) = 62) ∧ bt T tl (tkP T tl i + 1) = 61 then (if T (tkP T tl i) = 60 then 128 else 129, tkP T tl i + 2) else if sB_ (T (tkP T tl i)) then (T (tkP T tl i), tkP T tl i + 1) else (1, tkP T tl i) := by
          unfold tkE
          rw [if_neg (by omega), if_neg h1, if_neg h2]
        have one : ¬ ((T (tkP T tl i) = 60 ∨ T (tkP T tl i) = 62) ∧ bt T tl (tkP T tl i + 1) = 61) → p_cl (m_X12_kindAt_155 G (ad 70) (zn (tkP T tl i)) (zn i) M (zn (T (tkP T tl i)))) (fun M' r => r = zn (kr (kd0 T tl i)) ∧ (M' = M ∨ ∃ v, M' = wI M (ad 74) i v) ∧ (2 ≤ kd0 T tl i → mI M' (ad 74) i = zn (lnT T tl i))) := by
          intro hn
          rw [if_neg hn] at eE
          unfold m_X12_kindAt_155 m_X12_kindAt_156
          refine c_rf (sh_m6 hS) (c_t rfl ?_)
          unfold m_X12_kindAt_173 m_X12_kindAt_223
          refine c_ix (by rw [sh_mn6 hS]; exact zn_in (by omega) (by decide)) (c_wI (c_t rfl ?_))
          rw [zn_nat (show i < 2147483648 by omega)]
          have bad : ¬ sB_ (T (tkP T tl i)) = true → p_cl (some (wI M (ad 74) i 1, (901 : Int32))) (fun M' r => r = zn (kr (kd0 T tl i)) ∧ (M' = M ∨ ∃ v, M' = wI M (ad 74) i v) ∧ (2 ≤ kd0 T tl i → mI M' (ad 74) i = zn (lnT T tl i))) := by
            intro hs
            rw [if_neg hs] at eE
            have hkd : kd0 T tl i = 1 := by unfold kd0; rw [eE]
            exact c_some ⟨by rw [hkd]; rfl, Or.inr ⟨_, rfl⟩, fun q => by omega⟩
          refine c_if (fun g => bad (fun hs => ?_)) (fun g => c_if (fun g2 => bad (fun hs => ?_)) (fun g2 => ?_))
          · rw [sB_t] at hs
            rw [show (0 : Int32) = zn 0 from rfl, zn_le (by omega) (by omega)] at g
            omega
          · rw [sB_t] at hs
            rw [show (128 : Int32) = zn 128 from rfl, zn_le (by omega) (by omega)] at g2
            omega
          · rw [show (128 : Int32) = zn 128 from rfl, zn_le (by omega) (by omega)] at g2
            refine c_clm (j_idx (show T (tkP T tl i) < 128 by omega)) ?_
            rintro M1 r ⟨rfl, hr⟩
            refine c_if (fun g3 => bad (hr.mp g3)) (fun g3 => ?_)
            have hs : sB_ (T (tkP T tl i)) = true := by
              by_cases q : sB_ (T (tkP T tl i)) = true
              · exact q
              · exact absurd (hr.mpr q) g3
            rw [if_pos hs] at eE
            have hkd : kd0 T tl i = T (tkP T tl i) := by unfold kd0; rw [eE]
            have hs2 := sB_t.mp hs
            refine c_some ⟨?_, Or.inr ⟨_, rfl⟩, fun _ => ?_⟩
            · rw [hkd, show (50 : Int32) + zn (T (tkP T tl i)) = zn (50 + T (tkP T tl i)) from zn_add 50 _]
              unfold kr
              rw [if_neg (by omega), if_neg (by omega), if_neg (by omega), if_neg (by omega), if_neg (by omega), if_neg (by omega), if_neg (by omega)]
            · rw [mI_wI, if_pos rfl, upd_at, if_pos rfl]
              unfold lnT
              rw [eE]
              show (1 : Int32) = zn (tkP T tl i + 1 - tkP T tl i)
              rw [Nat.add_sub_cancel_left]
              rfl
        have two : (T (tkP T tl i) = 60 ∨ T (tkP T tl i) = 62) → p_cl (m_X12_kindAt_140 G (ad 70) (zn (tkP T tl i)) (zn i) M (zn (T (tkP T tl i))) (zn (tkP T tl i + 1))) (fun M' r => r = zn (kr (kd0 T tl i)) ∧ (M' = M ∨ ∃ v, M' = wI M (ad 74) i v) ∧ (2 ≤ kd0 T tl i → mI M' (ad 74) i = zn (lnT T tl i))) := by
          intro h3
          unfold m_X12_kindAt_140
          rw [m_byteOf hS hc htl (by omega)]
          refine c_cl (c_some ?_)
          by_cases h4 : bt T tl (tkP T tl i + 1) = 61
          · have h5 : tkP T tl i + 1 < tl := by
              by_cases e : tkP T tl i + 1 < tl
              · exact e
              · unfold bt at h4
                rw [if_neg e] at h4
                exact absurd h4 (by decide)
            have h6 := h4
            unfold bt at h6
            rw [if_pos h5] at h6
            rw [if_pos (show (T (tkP T tl i) = 60 ∨ T (tkP T tl i) = 62) ∧ bt T tl (tkP T tl i + 1) = 61 from ⟨h3, h4⟩)] at eE
            rw [if_pos h5, h6]
            refine c_t rfl ?_
            unfold m_X12_kindAt_156
            refine c_rf (sh_m6 hS) (c_f (by decide) ?_)
            unfold m_X12_kindAt_173
            refine c_ix (by rw [sh_mn6 hS]; exact zn_in (by omega) (by decide)) (c_wI (c_f (by decide) ?_))
            rw [zn_nat (show i < 2147483648 by omega)]
            have fin : ∀ v : Nat, v = (tkE T tl (tkP T tl i)).1 → p_cl (some (wI M (ad 74) i 2, zn (kr v))) (fun M' r => r = zn (kr (kd0 T tl i)) ∧ (M' = M ∨ ∃ v, M' = wI M (ad 74) i v) ∧ (2 ≤ kd0 T tl i → mI M' (ad 74) i = zn (lnT T tl i))) := by
              intro v hv
              refine c_some ⟨by rw [hv]; rfl, Or.inr ⟨_, rfl⟩, fun _ => ?_⟩
              rw [mI_wI, if_pos rfl, upd_at, if_pos rfl]
              unfold lnT
              rw [eE]
              show (2 : Int32) = zn (tkP T tl i + 2 - tkP T tl i)
              rw [Nat.add_sub_cancel_left]
              rfl
            refine c_if (fun g => ?_) (fun g => ?_)
            · exact fin 128 (by rw [eE, if_pos (e60.mp g)])
            · exact fin 129 (by rw [eE, if_neg (fun h => g (e60.mpr h))])
          · have h5 : (if tkP T tl i + 1 < tl then zn (T (tkP T tl i + 1)) else (-1 : Int32)) ≠ 61 := by
              unfold bt at h4
              by_cases e : tkP T tl i + 1 < tl
              · rw [if_pos e] at h4 ⊢
                have := hT _ e
                intro q
                rw [show (61 : Int32) = zn 61 from rfl, zn_inj (by omega) (by decide)] at q
                exact h4 q
              · rw [if_neg e]
                decide
            exact c_f h5 (one (fun h => h4 h.2))
        refine c_if (fun g => two (Or.inl (e60.mp g))) (fun g => c_if (fun g2 => two (Or.inr (e62.mp g2))) (fun g2 => one (fun h => ?_)))
        rcases h.1 with q | q
        · exact g (e60.mpr q)
        · exact g2 (e62.mpr q)
  · rw [if_neg hp]
    have eE : tkE T tl (tkP T tl i) = (0, tkP T tl i) := by unfold tkE; rw [if_pos (by omega)]
    have hkd : kd0 T tl i = 0 := by unfold kd0; rw [eE]
    exact c_t rfl (c_some ⟨by rw [hkd]; rfl, Or.inl rfl, fun q => by omega⟩)
theorem m_cut_skip (hS : Sh G ad) (hc : mT ad M T tl) (htl : tl ≤ 2000) (hT : ∀ k, k < tl → T k < 256) (kb : mS → Int32 → Int32 → Option (mS × Unit)) {i : Nat} : ∀ (d q f : Nat), tl < d + q → d < f → q ≤ 5000 → d ≤ 3000 → ∃ f', m_X12_cut_11 G (ad 70) kb f M (zn q) (zn i) = m_X12_cut_11 G (ad 70) kb (f' + 1) M (zn (skF T tl d q)) (zn i) := by
  intro d
  induction d with
  | zero =>
    intro q f hd hf hq _
    obtain ⟨f, rfl⟩ : ∃ g, f = g + 1 := ⟨f - 1, by omega⟩
    exact ⟨f, rfl⟩
  | succ d ih =>
    intro q f hd hf hq hdd
    obtain ⟨f, rfl⟩ : ∃ g, f = g + 1 := ⟨f - 1, by omega⟩
    rw [skF]
    by_cases h : bB (bt T tl q) = true
    · rw [if_pos h]
      have h2 := bB_t.mp h
      have hq2 : q < tl := by
        by_cases e : q < tl
        · exact e
        · unfold bt at h2
          rw [if_neg e] at h2
          omega
      unfold bt at h2
      rw [if_pos hq2] at h2
      obtain ⟨f', e⟩ := ih (q + 1) f (by omega) (by omega) (by omega) (by omega)
      refine ⟨f', ?_⟩
      rw [← e, m_X12_cut_11, m_byteOf hS hc htl (by omega), if_pos hq2]
      unfold o_cl
      dsimp only
      unfold m_X12_cut_31 o_bd
      rw [zn_one]
      rcases h2 with h3 | h3
      · rw [h3, if_pos (show zn 32 = (32 : Int32) from rfl)]
      · rw [h3, if_neg (by decide), m_byteOf hS hc htl (by omega), if_pos hq2, h3]
        dsimp only
        rw [if_pos (show zn 10 = (10 : Int32) from rfl)]
    · rw [if_neg h]
      exact ⟨f, rfl⟩
theorem kd_k2 {p : Nat} (h : 2 ≤ (tkE T tl p).1) : (tkE T tl p).1 = 2 ∨ (tkE T tl p).1 = 3 ∨ (tkE T tl p).1 = 128 ∨ (tkE T tl p).1 = 129 ∨ (200 ≤ (tkE T tl p).1 ∧ (tkE T tl p).1 < 233) ∨ sB_ (tkE T tl p).1 = true := by
  rcases kd_kinds (T := T) (tl := tl) (p := p) with h0 | h0 | h0
  · omega
  · omega
  · exact h0
theorem kd_zero {p : Nat} : (tkE T tl p).1 = 0 ↔ tl ≤ p := by
  constructor
  · intro h
    have := kd_end (T := T) (tl := tl) (p := p) (by omega)
    by_cases e : p < tl
    · rw [if_pos e] at this; omega
    · omega
  · intro h
    unfold tkE
    rw [if_pos h]
theorem wI_ne (hA : Inj ad) {a b i j : Nat} {v : Int32} (h : b ≠ a ∨ j ≠ i) : mI (wI M (ad a) i v) (ad b) j = mI M (ad b) j := by
  rw [mI_wI]
  by_cases e : b = a
  · subst e
    rw [if_pos rfl, upd_at, if_neg (h.resolve_left (fun q => q rfl))]
  · rw [if_neg (ad_ne hA e)]
theorem wI_eq {a i : Nat} {v : Int32} : mI (wI M (ad a) i v) (ad a) i = v := by rw [mI_wI, if_pos rfl, upd_at, if_pos rfl]
/-- a token's row; at the 401st any token is wrong -/
def kdX (T : Nat → Nat) (tl i : Nat) : Nat := if i = 400 then (if kd0 T tl i = 0 then 0 else 1) else kd0 T tl i
theorem m_cut_body (hA : Inj ad) (hS : Sh G ad) (htl : tl ≤ 2000) (hT : ∀ k, k < tl → T k < 256) (hc : mT ad M T tl) {i f : Nat} (hi : i ≤ 400) (hle : tkP T tl i ≤ tl) (hb : bB (bt T tl (tkP T tl i)) = false) (hk : mK0 ad M T tl i) (kb : mS → Int32 → Int32 → Option (mS × Unit)) {Q : mS → Unit → Prop} (H : ∀ M', mT ad M' T tl → Fr (Bk ad 72 77) M M' → mK0 ad M' T tl i → mI M' (ad 72) i = zn (kr (kdX T tl i)) → mI M' (ad 73) i = zn (tkP T tl i) → mI M' (ad 75) i = 0 → mI M' (ad 76) i = 0 → (2 ≤ kd0 T tl i → mI M' (ad 74) i = zn (lnT T tl i)) → p_cl (m_X12_cut_98 G (ad 70) kb M' (zn (tkP T tl i)) (zn i)) Q) : p_cl (m_X12_cut_11 G (ad 70) kb (f + 1) M (zn (tkP T tl i)) (zn i)) Q := by
  have hix : vp_in (zn i) 401 := zn_in (by omega) (by decide)
  have ei : (zn i).toNatClampNeg = i := zn_nat (by omega)
  have hnb : ¬ (bt T tl (tkP T tl i) = 32 ∨ bt T tl (tkP T tl i) = 10) := fun h => by rw [bB_t.mpr h] at hb; exact absurd hb (by decide)
  have hne : ∀ k : Nat, (k = 32 ∨ k = 10) → (if tkP T tl i < tl then zn (T (tkP T tl i)) else (-1 : Int32)) ≠ zn k := by
    intro k hk2
    unfold bt at hnb
    by_cases e : tkP T tl i < tl
    · rw [if_pos e] at hnb ⊢
      have := hT _ e
      intro q
      rw [zn_inj (by omega) (by omega)] at q
      omega
    · rw [if_neg e]
      rcases hk2 with rfl | rfl <;> decide
  rw [m_X12_cut_11, m_byteOf hS hc htl (by omega)]
  refine c_cl (c_some (c_f (hne 32 (Or.inl rfl)) ?_))
  rw [m_byteOf hS hc htl (by omega)]
  refine c_cl (c_some (c_f (hne 10 (Or.inr rfl)) (c_rf (sh_m5 hS) (c_ix (by rw [sh_mn5 hS]; exact hix) (c_wI (c_rf (sh_m7 hS) (c_ix (by rw [sh_mn7 hS]; exact hix) (c_wI (c_rf (sh_m8 hS) (c_ix (by rw [sh_mn8 hS]; exact hix) (c_wI (c_rf (sh_m4 hS) ?_))))))))))))
  rw [ei]
  have hF0 : Fr (Bk ad 72 77) M (wI (wI (wI M (ad 73) i (zn (tkP T tl i))) (ad 75) i 0) (ad 76) i 0) := Fr_wI (Fr_wI (Fr_wI Fr_rf (Bk_in (by omega) (by omega))) (Bk_in (by omega) (by omega))) (Bk_in (by omega) (by omega))
  have r73 : mI (wI (wI (wI M (ad 73) i (zn (tkP T tl i))) (ad 75) i 0) (ad 76) i 0) (ad 73) i = zn (tkP T tl i) := by rw [wI_ne hA (by omega), wI_ne hA (by omega), wI_eq]
  have r75 : mI (wI (wI (wI M (ad 73) i (zn (tkP T tl i))) (ad 75) i 0) (ad 76) i 0) (ad 75) i = 0 := by rw [wI_ne hA (by omega), wI_eq]
  have r76 : mI (wI (wI (wI M (ad 73) i (zn (tkP T tl i))) (ad 75) i 0) (ad 76) i 0) (ad 76) i = 0 := wI_eq
  have rj : ∀ b j : Nat, j ≠ i → mI (wI (wI (wI M (ad 73) i (zn (tkP T tl i))) (ad 75) i 0) (ad 76) i 0) (ad b) j = mI M (ad b) j := fun b j hj => by rw [wI_ne hA (Or.inr hj), wI_ne hA (Or.inr hj), wI_ne hA (Or.inr hj)]
  generalize wI (wI (wI M (ad 73) i (zn (tkP T tl i))) (ad 75) i 0) (ad 76) i 0 = M17 at hF0 r73 r75 r76 rj ⊢
  refine c_clm (m_kindAt hA hS (mT_Fr hA hc hF0 (by omega)) htl hT hi hle) ?_
  rintro M19 r ⟨rfl, hM, hmany⟩
  have k19 : ∀ b j : Nat, (b ≠ 74 ∨ j ≠ i) → mI M19 (ad b) j = mI M17 (ad b) j := by
    intro b j hbj
    rcases hM with rfl | ⟨v, rfl⟩
    · rfl
    · exact wI_ne hA hbj
  have hF1 : Fr (Bk ad 72 77) M M19 := by
    rcases hM with rfl | ⟨v, rfl⟩
    · exact hF0
    · exact Fr_wI hF0 (Bk_in (by omega) (by omega))
  refine c_ix (by rw [sh_mn4 hS]; exact hix) (c_wI ?_)
  have fin : ∀ M', (∀ b j : Nat, (b ≠ 72 ∨ j ≠ i) → mI M' (ad b) j = mI M19 (ad b) j) → Fr (Bk ad 72 77) M M' → mI M' (ad 72) i = zn (kr (kdX T tl i)) → p_cl (m_X12_cut_98 G (ad 70) kb M' (zn (tkP T tl i)) (zn i)) Q := by
    intro M' hM' hF' h72
    refine H M' (mT_Fr hA hc hF' (by omega)) hF' (fun j hj => ?_) h72 ?_ ?_ ?_ (fun h => ?_)
    · have hj2 : j ≠ i := by omega
      rw [hM' 72 j (Or.inr hj2), hM' 73 j (Or.inr hj2), hM' 74 j (Or.inr hj2), hM' 75 j (Or.inr hj2), hM' 76 j (Or.inr hj2), k19 72 j (Or.inr hj2), k19 73 j (Or.inr hj2), k19 74 j (Or.inr hj2), k19 75 j (Or.inr hj2), k19 76 j (Or.inr hj2), rj 72 j hj2, rj 73 j hj2, rj 74 j hj2, rj 75 j hj2, rj 76 j hj2]
      exact hk j hj
    · rw [hM' 73 i (Or.inl (by decide)), k19 73 i (Or.inl (by decide))]; exact r73
    · rw [hM' 75 i (Or.inl (by decide)), k19 75 i (Or.inl (by decide))]; exact r75
    · rw [hM' 76 i (Or.inl (by decide)), k19 76 i (Or.inl (by decide))]; exact r76
    · rw [hM' 74 i (Or.inl (by decide))]; exact hmany h
  have e400 : (zn i = 400) ↔ i = 400 := zn_inj (b := 400) (by omega) (by decide)
  refine c_if (fun g => ?_) (fun g => ?_)
  · have g2 := e400.mp g
    refine c_rf (sh_m4 hS) (c_ix (by rw [sh_mn4 hS]; exact hix) ?_)
    rw [wI_eq]
    have hkd : kr (kd0 T tl i) = 900 ↔ kd0 T tl i = 0 := by
      constructor
      · intro h
        by_cases q1 : kd0 T tl i = 1
        · rw [q1] at h; exact absurd h (by decide)
        · by_cases q0 : kd0 T tl i = 0
          · exact q0
          · have := kr_lt (k := kd0 T tl i) (kd_k2 (by unfold kd0 at q0 q1; omega))
            omega
      · intro h; rw [h]; rfl
    have hkl : kr (kd0 T tl i) < 1000 := by
      by_cases q1 : kd0 T tl i ≤ 1
      · rcases (show kd0 T tl i = 0 ∨ kd0 T tl i = 1 by omega) with q | q <;> rw [q] <;> decide
      · have := kr_lt (k := kd0 T tl i) (kd_k2 (by unfold kd0 at q1; omega))
        omega
    refine c_if (fun q => ?_) (fun q => ?_)
    · rw [show (900 : Int32) = zn 900 from rfl, zn_inj (by omega) (by decide)] at q
      refine fin _ (fun b j h => wI_ne hA h) (Fr_wI hF1 (Bk_in (by omega) (by omega))) ?_
      rw [wI_eq]
      unfold kdX
      rw [if_pos g2, if_pos (hkd.mp q), q]
      rfl
    · rw [show (900 : Int32) = zn 900 from rfl, zn_inj (by omega) (by decide)] at q
      refine c_rf (sh_m4 hS) (c_ix (by rw [sh_mn4 hS]; exact hix) (c_wI ?_))
      refine fin _ (fun b j h => by rw [wI_ne hA h, wI_ne hA h]) (Fr_wI (Fr_wI hF1 (Bk_in (by omega) (by omega))) (Bk_in (by omega) (by omega))) ?_
      rw [wI_eq]
      unfold kdX
      rw [if_pos g2, if_neg (fun h => q (hkd.mpr h))]
      rfl
  · refine fin _ (fun b j h => wI_ne hA h) (Fr_wI hF1 (Bk_in (by omega) (by omega))) ?_
    rw [wI_eq]
    unfold kdX
    rw [if_neg (fun h => g (e400.mpr h))]
theorem m_cut_loop (hA : Inj ad) (hS : Sh G ad) (htl : tl ≤ 2000) (hT : ∀ k, k < tl → T k < 256) : ∀ (d i q f : Nat) (M : mS), i + d = 400 → d < f → (∀ j, j < i → 2 ≤ kd0 T tl j) → nT T tl = tkN T tl d i → mT ad M T tl → mK0 ad M T tl i → q ≤ tl → sk T tl q = tkP T tl i → p_cl (m_X12_cut_4 G (ad 70) f M (zn q) (zn i)) (fun M' _ => mK ad M' T tl ∧ Fr (Bk ad 72 77) M M') := by
  intro d
  induction d with
  | zero =>
    intro i q f M hi hf hge hn hc hk hq hsk
    obtain ⟨f, rfl⟩ : ∃ g, f = g + 1 := ⟨f - 1, by omega⟩
    have hle := tkP_le (T := T) (tl := tl) i hge
    have hb := skF_stop (T := T) (tl := tl) 2001 q (by omega)
    rw [show skF T tl 2001 q = tkP T tl i from hsk] at hb
    rw [m_X12_cut_4]
    refine c_f (by rw [show (400 : Int32) = zn 400 from rfl, zn_lt (by omega) (by omega)]; omega) ?_
    obtain ⟨f', e⟩ := m_cut_skip (i := i) hS hc htl hT (fun M v1 v2 => m_X12_cut_4 G (ad 70) f M v1 v2) 2001 q fu (by omega) (by unfold fu; omega) (by omega) (by omega)
    rw [e, show skF T tl 2001 q = tkP T tl i from hsk]
    refine m_cut_body hA hS htl hT hc (by omega) hle hb hk _ (fun M' g1 g2 g3 g4 g5 g6 g7 g8 => ?_)
    rw [tkN] at hn
    have hi4 : i = 400 := by omega
    have ekd : kdX T tl i = kdT T tl (nT T tl) := by
      unfold kdX kdT
      rw [if_pos hi4, if_neg (Nat.lt_irrefl _), hn]
      have := kd_zero (T := T) (tl := tl) (p := tkP T tl i)
      unfold kd0
      by_cases h : tkP T tl i < tl
      · rw [if_neg (fun q => by omega), if_pos h]
      · rw [if_pos (this.mpr (by omega)), if_neg h]
    unfold m_X12_cut_98
    refine c_rf (sh_m4 hS) (c_ix (by rw [sh_mn4 hS]; exact zn_in (by omega) (by decide)) ?_)
    rw [zn_nat (show i < 2147483648 by omega), g4]
    refine c_f ?_ (c_some ⟨⟨fun j hj => ?_, fun j hj => (g3 j (by omega)).2.2.1⟩, g2⟩)
    · unfold kdX
      rw [if_pos hi4]
      split <;> decide
    · by_cases e2 : j = i
      · rw [e2, g4, g5, g6, g7, ekd, hn]
        exact ⟨rfl, rfl, rfl, rfl⟩
      · have := g3 j (by omega)
        refine ⟨?_, this.2.1, this.2.2.2.1, this.2.2.2.2⟩
        unfold kdT
        rw [if_pos (by omega)]
        exact this.1
  | succ d ih =>
    intro i q f M hi hf hge hn hc hk hq hsk
    obtain ⟨f, rfl⟩ : ∃ g, f = g + 1 := ⟨f - 1, by omega⟩
    have hle := tkP_le (T := T) (tl := tl) i hge
    have hb := skF_stop (T := T) (tl := tl) 2001 q (by omega)
    rw [show skF T tl 2001 q = tkP T tl i from hsk] at hb
    rw [m_X12_cut_4]
    refine c_f (by rw [show (400 : Int32) = zn 400 from rfl, zn_lt (by omega) (by omega)]; omega) ?_
    obtain ⟨f', e⟩ := m_cut_skip (i := i) hS hc htl hT (fun M v1 v2 => m_X12_cut_4 G (ad 70) f M v1 v2) 2001 q fu (by omega) (by unfold fu; omega) (by omega) (by omega)
    rw [e, show skF T tl 2001 q = tkP T tl i from hsk]
    refine m_cut_body hA hS htl hT hc (by omega) hle hb hk _ (fun M' g1 g2 g3 g4 g5 g6 g7 g8 => ?_)
    rw [show kdX T tl i = kd0 T tl i by unfold kdX; rw [if_neg (by omega)]] at g4
    unfold m_X12_cut_98
    refine c_rf (sh_m4 hS) (c_ix (by rw [sh_mn4 hS]; exact zn_in (by omega) (by decide)) ?_)
    rw [zn_nat (show i < 2147483648 by omega), g4]
    by_cases h1 : kd0 T tl i ≤ 1
    · rw [tkN, if_pos h1] at hn
      have ekd : kd0 T tl i = kdT T tl (nT T tl) := by
        unfold kdT
        rw [if_neg (Nat.lt_irrefl _), hn]
        exact kd_end h1
      refine c_f ?_ (c_some ⟨⟨fun j hj => ?_, fun j hj => (g3 j (by omega)).2.2.1⟩, g2⟩)
      · rcases (show kd0 T tl i = 0 ∨ kd0 T tl i = 1 by omega) with q | q <;> rw [q] <;> decide
      · by_cases e2 : j = i
        · rw [e2, g4, g5, g6, g7, ekd, hn]
          exact ⟨rfl, rfl, rfl, rfl⟩
        · have := g3 j (by omega)
          refine ⟨?_, this.2.1, this.2.2.2.1, this.2.2.2.2⟩
          unfold kdT
          rw [if_pos (by omega)]
          exact this.1
    · rw [tkN, if_neg h1] at hn
      have hlt := kr_lt (k := kd0 T tl i) (kd_k2 (by unfold kd0 at h1; omega))
      obtain ⟨e1, e2, e3⟩ := tkE_ok (T := T) (tl := tl) (p := tkP T tl i) (show 2 ≤ kd0 T tl i by omega)
      refine c_t ((zn_lt (b := 900) (by omega) (by decide)).mpr hlt) (c_rf (sh_m6 hS) (c_ix (by rw [sh_mn6 hS]; exact zn_in (by omega) (by decide)) (c_bd (c_bd ?_))))
      rw [g8 (by omega), zn_add, zn_one, show tkP T tl i + lnT T tl i = (tkE T tl (tkP T tl i)).2 by unfold lnT; omega]
      refine c_mono (ih (i + 1) _ f M' (by omega) (by omega) (fun j hj => ?_) hn g1 (fun j hj => ?_) e2 rfl) ?_
      · by_cases e : j = i
        · rw [e]; omega
        · exact hge j (by omega)
      · by_cases e : j = i
        · rw [e, g4, g5, g6, g7, g8 (by omega)]
          exact ⟨rfl, rfl, rfl, rfl, rfl⟩
        · exact g3 j (by omega)
      · rintro M2 _ ⟨q1, q2⟩
        exact ⟨q1, Fr_tr g2 q2⟩
theorem m_cut (hA : Inj ad) (hS : Sh G ad) (htl : tl ≤ 2000) (hT : ∀ k, k < tl → T k < 256) (hc : mT ad M T tl) : p_cl (m_X12_cut G M (ad 70)) (fun M' _ => mK ad M' T tl ∧ Fr (Bk ad 72 77) M M') := by
  unfold m_X12_cut
  exact m_cut_loop hA hS htl hT 400 0 0 fu M (by omega) (by unfold fu; omega) (fun j hj => by omega) rfl hc (fun j hj => by omega) (Nat.zero_le _) rfl
end CutM
