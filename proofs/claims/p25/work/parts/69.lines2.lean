/-! the class's parser: lines of rules, of stones, of ants -/
theorem nTu_add {kd : Nat → Nat} {f q : Nat} : nTu kd (f + 1) q = if qTurn (kd q) then nTu kd f (q + 1) + 1 else 0 := rfl
theorem sTurn_r {T : Nat → Nat} {tl q : Nat} {σ : aS} : pg_r (sgP (sTurn T tl q σ)) = pg_r (sgP σ) := by
  unfold sTurn
  split
  · rfl
  · rw [(sC_5 _ _ σ).1]
theorem qTurn_t {k : Nat} : qTurn k = true ↔ 201 ≤ k ∧ k ≤ 204 := by unfold qTurn; rw [Bool.and_eq_true, decide_eq_true_iff, decide_eq_true_iff]
section Lines2
variable {G : gS} {ad : Nat → Nat} {T : Nat → Nat} {tl : Nat}
theorem r_new (hA : Inj ad) (hS : Sh G ad) {M : mS} {σ : aS} {p : Nat} (h : CR ad M T tl p σ) {o : Option Nat} (ho : ∀ i, o = some i → i < 1000) {α : Type} {k : mS → Option (mS × α)} {Q : mS → α → Prop} (H : ∀ M', CR ad M' T tl p (sNew o (tkP T tl p) σ) → Fr (PF ad) M M' → p_cl (k M') Q) : p_cl (if ixV o < 0 then k M else o_cl (m_X2_complain G M (ad 55) (2 : Int32)) (fun M7 r8 => k M7)) Q := by
  unfold sNew at H
  refine c_if (fun g => ?_) (fun g => ?_)
  · have g2 := (ixV_nn ho).2.mp g
    rw [if_pos g2] at H
    exact H M h Fr_rf
  · have g2 : ¬ o = none := fun q => g ((ixV_nn ho).2.mpr q)
    rw [if_neg g2] at H
    refine c_clm (r_complain hA hS h (e := 2) (by decide)) ?_
    rintro M1 _ ⟨h1, f1⟩
    exact H M1 h1 f1
theorem r_nameRule (hA : Inj ad) (hS : Sh G ad) (hT : ∀ k, k < tl → T k < 256) {M : mS} {σ : aS} {p : Nat} (h : CR ad M T tl p σ) (hk : kdT T tl p = 2) : p_cl (m_X2_nameRule G M (ad 55) (vlT T tl p)) (fun M' _ => CR ad M' T tl p (sRul T tl p σ) ∧ 1 ≤ pg_r (sgP (sRul T tl p σ)) ∧ Fr (PF ad) M M') := by
  have hky := name_ok hT hk
  have h5 := h.2.2.1.1
  unfold m_X2_nameRule
  rw [hky.1]
  refine c_rf (sh_q3 hS) (c_rf (sh_q1 hS) ?_)
  rw [r_ixR hS h hky.2]
  refine c_cl (c_some (r_new hA hS h (k := m_X2_nameRule_23 G (ad 55) (Int64.ofNat (keyT T tl p))) (fun i hi => by have := ixN_lt _ _ _ hi; omega) ?_))
  intro M1 h1 f1
  have e5 := sNew_5 (ixN (sgN σ) (keyT T tl p) (pg_r (sgP σ)) 0) (tkP T tl p) σ
  unfold m_X2_nameRule_23 sRul rulO
  generalize sNew (ixN (sgN σ) (keyT T tl p) (pg_r (sgP σ)) 0) (tkP T tl p) σ = σ1 at h1 e5 ⊢
  obtain ⟨e1, e2, e3, e4⟩ := e5
  refine c_rf (sh_q1 hS) (c_clm (c_beginRule hA (sh_P12 hS) h1.1.2.1 h1.2.2.1.1) ?_)
  rintro M2 r ⟨a2, b2, f2⟩
  rw [e1] at a2 b2
  by_cases k : pg_r (sgP σ) < 5
  · obtain ⟨rfl, h2⟩ := a2 k
    rw [if_pos k]
    refine c_f (by decide) (c_rf (sh_q3 hS) (c_rf (sh_q1 hS) ?_))
    have e0 : mI M2 (ad 12) 0 - 1 = zn (pg_r (sgP σ)) := by
      rw [h2.1.1]
      exact zn_top
    rw [e0]
    refine c_ix (by rw [sh_qn3 hS]; exact zn_in k (by decide)) (c_wJ (c_some ?_))
    rw [zn_nat (by omega)]
    have fJ : Fr (Bk ad 56 57) M2 (wJ M2 (ad 56) (pg_r (sgP σ)) (Int64.ofNat (keyT T tl p))) := Fr_wJ Fr_rf (Bk_in (by omega) (by omega))
    have fJ2 : Fr (PF ad) M2 (wJ M2 (ad 56) (pg_r (sgP σ)) (Int64.ofNat (keyT T tl p))) := Fr_mono fJ (fun _ q => Or.inr (Bk_sub (by decide) (by decide) q))
    refine ⟨?_, by show 1 ≤ pg_r (sgP σ) + 1; omega, Fr_tr f1 (Fr_tr (PF_P f2) fJ2)⟩
    obtain ⟨⟨g1, g2, g3, g4, g5⟩, ⟨w1, w2, w3, w4⟩, ⟨v1, v2, v3, v4, v5⟩, v6, ⟨v7, v8⟩, v9⟩ := h1
    rw [e1] at v1 v2 v3 v4 v5
    rw [e2] at v6 g3 g5
    rw [e3] at v7
    rw [e4] at v8
    rw [e1, e3] at g4
    rw [e4] at g5
    have gJ : ∀ b, mJ (wJ M2 (ad 56) (pg_r (sgP σ)) (Int64.ofNat (keyT T tl p))) (ad 56) b = if b = pg_r (sgP σ) then Int64.ofNat (keyT T tl p) else mJ M1 (ad 56) b := fun b => by
      rw [mJ_wJ_eq, updL_at, Fr_J hA f2 (by decide)]
    refine ⟨⟨cK_PF hA (cK_PF hA g1 (PF_P f2)) fJ2, cP_Fr hA h2 fJ (by decide), cY_Fr hA (cY_Fr hA g3 v6.2.1 f2 (by decide)) v6.2.1 fJ (by decide), fun j hj => ?_, fun j hj => ?_⟩, ⟨?_, w2, ?_, fun q => ?_⟩, ⟨by show pg_r (sgP σ) + 1 ≤ 5; omega, fun r hr => ?_, v3, v4, v5⟩, v6, ⟨fun j => ?_, v8⟩, v9⟩
    · have hj : j < pg_r (sgP σ) + 1 := hj
      rw [gJ]
      show _ = Int64.ofNat (if j = pg_r (sgP σ) then keyT T tl p else sgN σ j)
      by_cases e : j = pg_r (sgP σ)
      · rw [if_pos e, if_pos e]
      · rw [if_neg e, if_neg e]
        exact g4 j (by omega)
    · rw [Fr_J hA fJ (by decide), Fr_J hA f2 (by decide)]
      exact g5 j hj
    · rw [Fr_I hA fJ (by decide), Fr_I hA f2 (by decide)]; exact w1
    · rw [Fr_I hA fJ (by decide), Fr_I hA f2 (by decide)]; exact w3
    · rw [Fr_I hA fJ (by decide), Fr_I hA f2 (by decide)]; exact w4 q
    · have hr : r < pg_r (sgP σ) + 1 := hr
      show (if r = pg_r (sgP σ) then 0 else pg_z (sgP σ) r) ≤ 6
      split
      · omega
      · exact v2 r (by omega)
    · show (if j = pg_r (sgP σ) then keyT T tl p else sgN σ j) < 9223372036854775808
      split
      · exact hky.2
      · exact v7 j
  · obtain ⟨rfl, rfl⟩ := b2 k
    rw [if_neg k]
    refine c_t rfl (c_clm (r_complain hA hS h1 (e := 4) (by decide)) ?_)
    rintro M3 _ ⟨h3, f3⟩
    refine c_some ⟨h3, ?_, Fr_tr f1 f3⟩
    rw [(sC_5 _ _ σ1).1, e1]
    omega
theorem r_turn (hA : Inj ad) (hS : Sh G ad) {M : mS} {σ : aS} {p : Nat} (h : CR ad M T tl p σ) (hk : 201 ≤ kdT T tl p ∧ kdT T tl p ≤ 204) (hr : 1 ≤ pg_r (sgP σ)) {α : Type} {k : mS → Option (mS × α)} {Q : mS → α → Prop} (H : ∀ M', CR ad M' T tl p (sTurn T tl p σ) → Fr (PF ad) M M' → p_cl (k M') Q) : p_cl (o_cl (m_X3_addTurn G M (ad 12) (zn (kdT T tl p - 201))) (fun M14 r15 => (if r15 = 0 then o_cl (m_X2_complain G M14 (ad 55) (4 : Int32)) (fun M18 r19 => k M18) else k M14))) Q := by
  have v := h.2.2.1
  refine c_clm (c_addTurn hA (sh_P12 hS) h.1.2.1 v.1 hr v.2.1) ?_
  rintro M1 r ⟨a1, b1, f1⟩
  unfold sTurn at H
  by_cases g : pg_z (sgP σ) (pg_r (sgP σ) - 1) < 6
  · obtain ⟨rfl, h1⟩ := a1 g
    rw [if_pos g] at H
    refine c_f (by decide) (H M1 (CR_P hA h f1 h1 rfl (SV_P h.2.2 v.1 (fun r hr2 => ?_) (fun r j => ?_) v.2.2.2.1 v.2.2.2.2)) (PF_P f1))
    · show (if r = pg_r (sgP σ) - 1 then pg_z (sgP σ) r + 1 else pg_z (sgP σ) r) ≤ 6
      have h2 := v.2.1 r hr2
      split
      · next e => rw [e]; omega
      · exact h2
    · show (if r = pg_r (sgP σ) - 1 ∧ j = pg_z (sgP σ) (pg_r (sgP σ) - 1) then kdT T tl p - 201 else pg_t (sgP σ) r j) < 4
      split
      · omega
      · exact v.2.2.1 r j
  · obtain ⟨rfl, rfl⟩ := b1 g
    rw [if_neg g] at H
    refine c_t rfl (c_clm (r_complain hA hS h (e := 4) (by decide)) ?_)
    rintro M3 _ ⟨h3, f3⟩
    exact H M3 h3 f3
theorem r_turns (hA : Inj ad) (hS : Sh G ad) (hT : ∀ k, k < tl → T k < 256) : ∀ (d v f : Nat) (M : mS) (σ : aS) (q : Nat), v + d = 400 → d < f → v ≤ q → CR ad M T tl q σ → 1 ≤ pg_r (sgP σ) → PostL ad T tl M (m_X2_ruleLine_28 G (ad 55) f M (zn v)) (decide (2 ≤ v + nTu (kdT T tl) d q), q + nTu (kdT T tl) d q) (sTurns T tl (nTu (kdT T tl) d q) q σ) := by
  intro d
  have fin : ∀ (v m : Nat) (M : mS) (σ : aS) (q : Nat), v ≤ 400 → m = 0 → CR ad M T tl q σ → PostL ad T tl M (m_X2_ruleLine_88 G (ad 55) M (zn v)) (decide (2 ≤ v + m), q + m) (sTurns T tl m q σ) := by
    rintro v m M σ q hv rfl h
    unfold m_X2_ruleLine_88
    refine c_if (fun g => ?_) (fun g => ?_)
    · rw [show (2 : Int32) = zn 2 from rfl, zn_lt (by omega) (by omega)] at g
      rw [show decide (2 ≤ v + 0) = false from decide_eq_false (by omega)]
      exact PL_no h Fr_rf
    · rw [show (2 : Int32) = zn 2 from rfl, zn_lt (by omega) (by omega)] at g
      rw [show decide (2 ≤ v + 0) = true from decide_eq_true (by omega)]
      exact PL_ye h Fr_rf
  induction d with
  | zero =>
    intro v f M σ q hv hf hq h hr
    obtain ⟨f, rfl⟩ : ∃ g, f = g + 1 := ⟨f - 1, by omega⟩
    rw [m_X2_ruleLine_28, if_pos (by rw [show (400 : Int32) = zn 400 from rfl, zn_le (by omega) (by omega)]; omega)]
    exact fin v _ M σ q (by omega) rfl h
  | succ d ih =>
    intro v f M σ q hv hf hq h hr
    obtain ⟨f, rfl⟩ : ∃ g, f = g + 1 := ⟨f - 1, by omega⟩
    have hb := kdT_le (T := T) (tl := tl) hT (q := q)
    have e : nTu (kdT T tl) (d + 1) q = if qTurn (kdT T tl q) then nTu (kdT T tl) d (q + 1) + 1 else 0 := rfl
    rw [m_X2_ruleLine_28, if_neg (by rw [show (400 : Int32) = zn 400 from rfl, zn_le (by omega) (by omega)]; omega), r_kind hS h]
    refine c_cl (c_some (c_if (fun g => ?_) (fun g => ?_)))
    · rw [show (201 : Int32) = zn 201 from rfl, zn_lt (by omega) (by omega)] at g
      exact fin v _ M σ q (by omega) (by rw [e, if_neg (fun q => by have := qTurn_t.mp q; omega)]) h
    rw [show (201 : Int32) = zn 201 from rfl, zn_lt (by omega) (by omega)] at g
    rw [r_kind hS h]
    refine c_cl (c_some (c_if (fun g2 => ?_) (fun g2 => ?_)))
    · rw [show (204 : Int32) = zn 204 from rfl, zn_lt (by omega) (by omega)] at g2
      exact fin v _ M σ q (by omega) (by rw [e, if_neg (fun q => by have := qTurn_t.mp q; omega)]) h
    rw [show (204 : Int32) = zn 204 from rfl, zn_lt (by omega) (by omega)] at g2
    refine c_rf (sh_q1 hS) ?_
    rw [r_kind hS h]
    refine c_cl (c_some ?_)
    rw [show zn (kdT T tl q) - 201 = zn (kdT T tl q - 201) from zn_sub (b := 201) (by omega)]
    refine r_turn hA hS h ⟨by omega, by omega⟩ hr (k := fun M18 => m_X2_ruleLine_78 G (ad 55) (fun M v1 => m_X2_ruleLine_28 G (ad 55) f M v1) M18 (zn v)) ?_
    intro M1 h1 f1
    show p_cl (m_X2_ruleLine_78 G (ad 55) (fun M v1 => m_X2_ruleLine_28 G (ad 55) f M v1) M1 (zn v)) _
    unfold m_X2_ruleLine_78
    refine c_clm (r_adv hA hS h1 (kdT_lt (by omega))) ?_
    rintro M2 _ ⟨h2, f2⟩
    refine c_bd ?_
    rw [zn_one, e, if_pos (qTurn_t.mpr ⟨by omega, by omega⟩)]
    have := PL_tr (Fr_tr f1 f2) (ih (v + 1) f M2 _ (q + 1) (by omega) (by omega) (by omega) h2 (by rw [sTurn_r]; exact hr))
    rw [show v + (nTu (kdT T tl) d (q + 1) + 1) = v + 1 + nTu (kdT T tl) d (q + 1) by omega, show q + (nTu (kdT T tl) d (q + 1) + 1) = q + 1 + nTu (kdT T tl) d (q + 1) by omega]
    exact this
/-- rule name turns -/
def sRulL (T : Nat → Nat) (tl p : Nat) (σ : aS) : aS := sTurns T tl (nTu (kdT T tl) 400 (p + 2)) (p + 2) (sRul T tl (p + 1) σ)
theorem r_rule (hA : Inj ad) (hS : Sh G ad) (hT : ∀ k, k < tl → T k < 256) {M : mS} {σ : aS} {p : Nat} (h : CR ad M T tl p σ) (hp : p < nT T tl) : PostL ad T tl M (m_X2_ruleLine G M (ad 55)) (pRul (kdT T tl) p) (sRulL T tl p σ) := by
  unfold m_X2_ruleLine pRul
  refine c_clm (r_adv hA hS h hp) ?_
  rintro M1 _ ⟨h1, f1⟩
  rw [r_kind hS h1]
  have hb1 := kdT_le (T := T) (tl := tl) hT (q := p + 1)
  refine c_cl (c_some (c_if (fun g => ?_) (fun g => ?_)))
  · have g : kdT T tl (p + 1) = 2 := (zn_lit hb1 (by decide)).mp g
    rw [if_pos g, r_value hS h1 (kdT_lt (by omega))]
    refine c_cl (c_some (c_clm (r_nameRule hA hS hT h1 g) ?_))
    rintro M2 _ ⟨h2, hr, f2⟩
    refine c_clm (r_adv hA hS h2 (kdT_lt (by omega))) ?_
    rintro M3 _ ⟨h3, f3⟩
    have := r_turns hA hS hT 400 0 fu M3 _ (p + 1 + 1) (by omega) (by unfold fu; omega) (by omega) h3 hr
    rw [Nat.zero_add] at this
    exact PL_tr (Fr_tr f1 (Fr_tr f2 f3)) this
  · have g : ¬ kdT T tl (p + 1) = 2 := fun q => g ((zn_lit hb1 (by decide)).mpr q)
    rw [if_neg g]
    exact PL_no h1 f1
/-- paint column row colour -/
def sPaint (T : Nat → Nat) (tl p : Nat) (σ : aS) : aS :=
  sSetY (aSet (nRn 0 63 (numT T tl (p + 2)) * 64 + nRn 0 63 (numT T tl (p + 1))) (nRn 0 5 (numT T tl (p + 3))) (sgY σ)) (sRn 0 5 (numT T tl (p + 3)) (tkP T tl (p + 3)) (sRn 0 63 (numT T tl (p + 2)) (tkP T tl (p + 2)) (sRn 0 63 (numT T tl (p + 1)) (tkP T tl (p + 1)) σ)))
theorem nRn_le {lo hi n : Nat} (h : lo ≤ hi) : nRn lo hi n ≤ hi := by
  unfold nRn
  split <;> omega
theorem r_paint (hA : Inj ad) (hS : Sh G ad) (hT : ∀ k, k < tl → T k < 256) {M : mS} {σ : aS} {p : Nat} (h : CR ad M T tl p σ) (hp : p < nT T tl) : PostL ad T tl M (m_X2_paintLine G M (ad 55)) (pPre (kdT T tl) paintQ (p + 1)) (sPaint T tl p σ) := by
  unfold m_X2_paintLine paintQ
  refine c_clm (r_adv hA hS h hp) ?_
  rintro M1 _ ⟨h1, f1⟩
  rw [r_kind hS h1]
  have hb1 := kdT_le (T := T) (tl := tl) hT (q := p + 1)
  have hb2 := kdT_le (T := T) (tl := tl) hT (q := p + 1 + 1)
  have hb3 := kdT_le (T := T) (tl := tl) hT (q := p + 1 + 1 + 1)
  refine c_cl (c_some (c_if (fun g => ?_) (fun g => ?_)))
  · have g : kdT T tl (p + 1) = 3 := (zn_lit hb1 (by decide)).mp g
    rw [pPre, if_pos (eQ_t.mpr g)]
    refine c_clm (r_range hA hS h1 g (lo := 0) (hi := 63) (by decide) (by decide)) ?_
    rintro M2 _ ⟨rfl, h2, f2⟩
    rw [r_kind hS h2]
    refine c_cl (c_some (c_if (fun g2 => ?_) (fun g2 => ?_)))
    · have g2 : kdT T tl (p + 1 + 1) = 3 := (zn_lit hb2 (by decide)).mp g2
      rw [pPre, if_pos (eQ_t.mpr g2)]
      refine c_clm (r_range hA hS h2 g2 (lo := 0) (hi := 63) (by decide) (by decide)) ?_
      rintro M3 _ ⟨rfl, h3, f3⟩
      rw [r_kind hS h3]
      refine c_cl (c_some (c_if (fun g3 => ?_) (fun g3 => ?_)))
      · have g3 : kdT T tl (p + 1 + 1 + 1) = 3 := (zn_lit hb3 (by decide)).mp g3
        rw [pPre, if_pos (eQ_t.mpr g3), pPre]
        refine c_rf (sh_q2 hS) (c_clm (r_range hA hS h3 g3 (lo := 0) (hi := 5) (by decide) (by decide)) ?_)
        rintro M4 _ ⟨rfl, h4, f4⟩
        have l1 : nRn 0 63 (numT T tl (p + 1)) ≤ 63 := nRn_le (by decide)
        have l2 : nRn 0 63 (numT T tl (p + 1 + 1)) ≤ 63 := nRn_le (by decide)
        have l3 : nRn 0 5 (numT T tl (p + 1 + 1 + 1)) ≤ 5 := nRn_le (by decide)
        rw [show zn (nRn 0 63 (numT T tl (p + 1 + 1))) * 64 + zn (nRn 0 63 (numT T tl (p + 1))) = zn (nRn 0 63 (numT T tl (p + 1 + 1)) * 64 + nRn 0 63 (numT T tl (p + 1))) from by
          rw [show (64 : Int32) = zn 64 from rfl, zn_mul, zn_add]]
        refine c_clm (cYc_set hA (sh_Y38 hS) h4.1.2.2.1.1 h4.2.2.2.1.1 (p := nRn 0 63 (numT T tl (p + 1 + 1)) * 64 + nRn 0 63 (numT T tl (p + 1))) (by omega) (v := nRn 0 5 (numT T tl (p + 1 + 1 + 1))) (by omega)) ?_
        rintro M5 _ ⟨h5, f5⟩
        have eY : sgY (sRn 0 5 (numT T tl (p + 1 + 1 + 1)) (tkP T tl (p + 1 + 1 + 1)) (sRn 0 63 (numT T tl (p + 1 + 1)) (tkP T tl (p + 1 + 1)) (sRn 0 63 (numT T tl (p + 1)) (tkP T tl (p + 1)) σ))) = sgY σ := by
          rw [(sRn_5 _ _ _ _ _).2.1, (sRn_5 _ _ _ _ _).2.1, (sRn_5 _ _ _ _ _).2.1]
        have hv := h4.2.2.2.1
        have hY := h4.1.2.2.1
        rw [eY] at hv hY h5
        have h6 := CR_Y hA h4 (Y := aSet (nRn 0 63 (numT T tl (p + 1 + 1)) * 64 + nRn 0 63 (numT T tl (p + 1))) (nRn 0 5 (numT T tl (p + 1 + 1 + 1))) (sgY σ)) (Fr_sub f5 (by decide) (by decide)) ⟨h5, cYf_Fr hA hY.2.1 f5 (by decide), cYa_Fr hA hY.2.2 f5 (Or.inr (by decide))⟩ (by rw [eY]; rfl) ⟨cSet_lt hv.1 (by omega), hv.2.1, hv.2.2⟩
        exact PL_ye h6 (Fr_tr f1 (Fr_tr f2 (Fr_tr f3 (Fr_tr f4 (PF_Y f5 (by decide) (by decide))))))
      · have g3 : ¬ kdT T tl (p + 1 + 1 + 1) = 3 := fun q => g3 ((zn_lit hb3 (by decide)).mpr q)
        rw [pPre, if_neg (fun q => g3 (eQ_t.mp q))]
        exact PL_no h3 (Fr_tr f1 (Fr_tr f2 f3))
    · have g2 : ¬ kdT T tl (p + 1 + 1) = 3 := fun q => g2 ((zn_lit hb2 (by decide)).mpr q)
      rw [pPre, if_neg (fun q => g2 (eQ_t.mp q))]
      exact PL_no h2 (Fr_tr f1 f2)
  · have g : ¬ kdT T tl (p + 1) = 3 := fun q => g ((zn_lit hb1 (by decide)).mpr q)
    rw [pPre, if_neg (fun q => g (eQ_t.mp q))]
    exact PL_no h1 f1
end Lines2
