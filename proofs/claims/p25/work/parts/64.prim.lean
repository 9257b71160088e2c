/-! the class's parser: what it holds, and its small words -/
/-- the program and the yard being read, the rules' and the ants' names, the error, its place -/
abbrev aS : Type := aP × aY × (Nat → Nat) × (Nat → Nat) × Nat × Nat
abbrev sgP (σ : aS) : aP := σ.1
abbrev sgY (σ : aS) : aY := σ.2.1
abbrev sgN (σ : aS) : Nat → Nat := σ.2.2.1
abbrev sgA (σ : aS) : Nat → Nat := σ.2.2.2.1
abbrev sgE (σ : aS) : Nat := σ.2.2.2.2.1
abbrev sgL (σ : aS) : Nat := σ.2.2.2.2.2
def sC (e pl : Nat) (σ : aS) : aS := if sgE σ = 0 then (sgP σ, sgY σ, sgN σ, sgA σ, e, pl) else σ
def sSetP (P : aP) (σ : aS) : aS := (P, sgY σ, sgN σ, sgA σ, sgE σ, sgL σ)
def sSetY (Y : aY) (σ : aS) : aS := (sgP σ, Y, sgN σ, sgA σ, sgE σ, sgL σ)
def ixN (nm : Nat → Nat) (key : Nat) : Nat → Nat → Option Nat
  | 0, _ => none
  | d + 1, v => if nm v = key then some v else ixN nm key d (v + 1)
theorem ixN_lt {nm : Nat → Nat} {key : Nat} : ∀ d v i : Nat, ixN nm key d v = some i → v ≤ i ∧ i < v + d ∧ nm i = key := by
  intro d
  induction d with
  | zero => intro v i h; exact absurd h (by rw [ixN]; exact fun q => by cases q)
  | succ d ih =>
    intro v i h
    rw [ixN] at h
    split at h
    · next e =>
      have := Option.some.inj h
      subst this
      exact ⟨Nat.le_refl _, by omega, e⟩
    · have := ih _ _ h
      exact ⟨by omega, by omega, this.2.2⟩
def ixV : Option Nat → Int32
  | some i => zn i
  | none => -1
/-- the number of a name, 0 for none -/
def ixD : Option Nat → Nat
  | some i => i
  | none => 0
def keyT (T : Nat → Nat) (tl j : Nat) : Nat := pkN T (tkP T tl j) (lnT T tl j)
def numT (T : Nat → Nat) (tl j : Nat) : Nat := nuN T (tkP T tl j) (lnT T tl j)
theorem kdT_lt {T : Nat → Nat} {tl q : Nat} (h2 : 2 ≤ kdT T tl q) : q < nT T tl := by
  unfold kdT at h2
  by_cases e : q < nT T tl
  · exact e
  · rw [if_neg e] at h2
    split at h2 <;> omega
theorem kdT_in {T : Nat → Nat} {tl q : Nat} (h : q < nT T tl) : kdT T tl q = (tkE T tl (tkP T tl q)).1 := if_pos h
theorem kdT_le {T : Nat → Nat} {tl : Nat} (hT : ∀ k, k < tl → T k < 256) {q : Nat} : kdT T tl q < 1000 := by
  by_cases e : q < nT T tl
  · rw [kdT_in e]
    unfold tkE
    split
    · exact (show (0 : Nat) < 1000 by decide)
    next h0 =>
    split
    · split
      · show kwK _ < 1000
        unfold kwK
        rcases kwF_ge (key := pkN T (tkP T tl q) (rnE T tl true (tkP T tl q) - tkP T tl q)) 33 0 with h | h <;> omega
      · exact (show (1 : Nat) < 1000 by decide)
    split
    · split
      · exact (show (3 : Nat) < 1000 by decide)
      · exact (show (1 : Nat) < 1000 by decide)
    split
    · show (if _ then 128 else 129) < 1000
      split <;> decide
    split
    · have := hT (tkP T tl q) (by omega)
      show T (tkP T tl q) < 1000
      omega
    · exact (show (1 : Nat) < 1000 by decide)
  · unfold kdT
    rw [if_neg e]
    split <;> decide
theorem nuN_lt {T : Nat → Nat} {s : Nat} : ∀ k : Nat, (∀ j, j < k → dB (T (s + j)) = true) → nuN T s k < 10 ^ k := by
  intro k
  induction k with
  | zero => intro _; exact Nat.one_pos
  | succ k ih =>
    intro h
    have h1 := ih (fun j hj => h j (by omega))
    have h2 := dB_t.mp (h k (by omega))
    rw [nuN, Nat.pow_succ]
    omega
theorem kwK_ge (key : Nat) : kwK key = 2 ∨ (200 ≤ kwK key ∧ kwK key < 233) := by
  unfold kwK
  rcases kwF_ge (key := key) 33 0 with h | h
  · exact Or.inl h
  · exact Or.inr ⟨by omega, by omega⟩
/-- a name, and what it is to the rows -/
theorem name_ok {T : Nat → Nat} {tl q : Nat} (hT : ∀ k, k < tl → T k < 256) (h : kdT T tl q = 2) : vlT T tl q = Int64.ofNat (keyT T tl q) ∧ keyT T tl q < 9223372036854775808 := by
  have hq := kdT_lt (T := T) (tl := tl) (q := q) (by omega)
  have hp := tkP_ok (T := T) (tl := tl) (i := q) (by omega)
  rw [kdT_in hq] at h
  unfold vlT keyT lnT
  unfold tkE at h ⊢
  generalize tkP T tl q = p at h hp ⊢
  by_cases h0 : tl ≤ p
  · rw [if_pos h0] at h; exact absurd h (show ¬ (0 : Nat) = 2 by decide)
  rw [if_neg h0] at h ⊢
  by_cases h1 : lB (T p) = true
  · rw [if_pos h1] at h ⊢
    by_cases h2 : rnE T tl true p - p ≤ 10
    · rw [if_pos h2, if_pos h1]
      dsimp only
      refine ⟨rfl, ?_⟩
      have := pkN_lt (T := T) (s := p) (rnE T tl true p - p) (lw_all h1 (by omega) hT)
      have h3 : 37 ^ (rnE T tl true p - p) ≤ 37 ^ 10 := Nat.pow_le_pow_right (by decide) h2
      have h4 : (37 : Nat) ^ 10 = 4808584372417849 := by decide
      omega
    · rw [if_neg h2] at h; exact absurd h (show ¬ (1 : Nat) = 2 by decide)
  · rw [if_neg h1] at h
    exfalso
    by_cases h3 : dB (T p) = true
    · rw [if_pos h3] at h
      split at h
      · exact absurd h (show ¬ (3 : Nat) = 2 by decide)
      · exact absurd h (show ¬ (1 : Nat) = 2 by decide)
    rw [if_neg h3] at h
    split at h
    · have h : (if T p = 60 then 128 else 129) = 2 := h
      split at h <;> omega
    split at h
    · next h4 =>
      have := sB_t.mp h4
      have h : T p = 2 := h
      omega
    · exact absurd h (show ¬ (1 : Nat) = 2 by decide)
theorem dg_all {T : Nat → Nat} {tl p : Nat} (h : dB (T p) = true) : ∀ j, j < rnE T tl false p - p → dB (T (p + j)) = true := by
  intro j hj
  by_cases e : j = 0
  · subst e; exact h
  have h1 := (rnF_ge (T := T) (tl := tl) (w := false) 2001 (p + 1)).2.2 (p + j) (by omega) (by
    have : rnE T tl false p = rnF T tl false 2001 (p + 1) := rfl
    omega)
  have h2 : wB false (bt T tl (p + j)) = dB (bt T tl (p + j)) := by unfold wB; simp
  rw [h2] at h1
  unfold bt at h1
  split at h1
  · exact h1
  · exact absurd h1 (by decide)
theorem num_ok {T : Nat → Nat} {tl q : Nat} (h : kdT T tl q = 3) : vlT T tl q = Int64.ofNat (numT T tl q) ∧ numT T tl q < 1000000 := by
  have hq := kdT_lt (T := T) (tl := tl) (q := q) (by omega)
  rw [kdT_in hq] at h
  unfold vlT numT lnT
  unfold tkE at h ⊢
  generalize tkP T tl q = p at h ⊢
  by_cases h0 : tl ≤ p
  · rw [if_pos h0] at h; exact absurd h (show ¬ (0 : Nat) = 3 by decide)
  rw [if_neg h0] at h ⊢
  by_cases h1 : lB (T p) = true
  · rw [if_pos h1] at h
    exfalso
    split at h
    · have h : kwK (pkN T p (rnE T tl true p - p)) = 3 := h
      rcases kwK_ge (pkN T p (rnE T tl true p - p)) with g | g <;> omega
    · exact absurd h (show ¬ (1 : Nat) = 3 by decide)
  rw [if_neg h1] at h ⊢
  by_cases h3 : dB (T p) = true
  · rw [if_pos h3] at h ⊢
    by_cases h2 : rnE T tl false p - p ≤ 6
    · rw [if_pos h2, if_neg h1, if_pos h3]
      dsimp only
      refine ⟨rfl, ?_⟩
      have := nuN_lt (T := T) (s := p) (rnE T tl false p - p) (dg_all h3)
      have h5 : 10 ^ (rnE T tl false p - p) ≤ 10 ^ 6 := Nat.pow_le_pow_right (by decide) h2
      have h4 : (10 : Nat) ^ 6 = 1000000 := by decide
      omega
    · rw [if_neg h2] at h; exact absurd h (show ¬ (1 : Nat) = 3 by decide)
  · exfalso
    rw [if_neg h3] at h
    split at h
    · have h : (if T p = 60 then 128 else 129) = 3 := h
      split at h <;> omega
    split at h
    · next h4 =>
      have := sB_t.mp h4
      have h : T p = 3 := h
      omega
    · exact absurd h (show ¬ (1 : Nat) = 3 by decide)
/-- what is in bounds -/
def SV (σ : aS) : Prop := (pg_r (sgP σ) ≤ 5 ∧ (∀ r, r < pg_r (sgP σ) → pg_z (sgP σ) r ≤ 6) ∧ (∀ r k, pg_t (sgP σ) r k < 4) ∧ pg_o (sgP σ) ≤ 20 ∧ off (pg_T (sgP σ)) (pg_o (sgP σ)) ≤ 400) ∧ vY 0 (sgY σ) ∧ ((∀ j, sgN σ j < 9223372036854775808) ∧ ∀ j, sgA σ j < 9223372036854775808) ∧ sgE σ ≤ 5
/-- what lies outside the parser's own numbers -/
def CR0 (ad : Nat → Nat) (M : mS) (T : Nat → Nat) (tl : Nat) (σ : aS) : Prop := cK ad M T tl ∧ cP ad M 12 (sgP σ) ∧ cY ad M 38 (sgY σ) ∧ (∀ j, j < pg_r (sgP σ) → mJ M (ad 56) j = Int64.ofNat (sgN σ j)) ∧ ∀ j, j < yd_n (sgY σ) → mJ M (ad 57) j = Int64.ofNat (sgA σ j)
def CR (ad : Nat → Nat) (M : mS) (T : Nat → Nat) (tl p : Nat) (σ : aS) : Prop := CR0 ad M T tl σ ∧ (mI M (ad 55) 5 = zn p ∧ p ≤ nT T tl ∧ mI M (ad 55) 6 = zn (sgE σ) ∧ (sgE σ ≠ 0 → mI M (ad 55) 7 = zn (sgL σ))) ∧ SV σ
def PF (ad : Nat → Nat) (b : Nat) : Prop := Bk ad 12 21 b ∨ Bk ad 38 58 b
section Prim
variable {G : gS} {ad : Nat → Nat} {M : mS} {T : Nat → Nat} {tl p : Nat} {σ : aS}
theorem cK_keep {M' : mS} (h : cK ad M T tl) (h1 : mI M' (ad 58) = mI M (ad 58)) (h2 : mI M' (ad 60) = mI M (ad 60)) (h3 : mI M' (ad 61) = mI M (ad 61)) (h4 : mJ M' (ad 62) = mJ M (ad 62)) : cK ad M' T tl := by
  unfold cK at h ⊢
  rw [h1, h2, h3, h4]
  exact h
theorem cK_PF (hA : Inj ad) {M' : mS} (h : cK ad M T tl) (hF : Fr (PF ad) M M') : cK ad M' T tl := by
  have no : ∀ k, (58 ≤ k) → ¬ PF ad (ad k) := by
    rintro k h (q | q)
    · exact Bk_out hA (by omega) q
    · exact Bk_out hA (by omega) q
  exact cK_keep h (hF.1 _ (no 58 (by decide))) (hF.1 _ (no 60 (by decide))) (hF.1 _ (no 61 (by decide))) (hF.2 _ (no 62 (by decide)))
theorem PF_55 {M M' : mS} (h : Fr (Bk ad 55 56) M M') : Fr (PF ad) M M' := Fr_mono h (fun _ q => Or.inr (Bk_sub (by decide) (by decide) q))
theorem PF_P {M M' : mS} (h : Fr (Bk ad 12 (12 + 9)) M M') : Fr (PF ad) M M' := Fr_mono h (fun _ q => Or.inl q)
theorem PF_Y {M M' : mS} {lo hi : Nat} (h : Fr (Bk ad lo hi) M M') (h1 : 38 ≤ lo) (h2 : hi ≤ 58) : Fr (PF ad) M M' := Fr_mono h (fun _ q => Or.inr (Bk_sub h1 h2 q))
theorem CR0_55 (hA : Inj ad) {M' : mS} (h : CR0 ad M T tl σ) (hn : yd_n (sgY σ) ≤ 6) (hF : Fr (Bk ad 55 56) M M') : CR0 ad M' T tl σ := by
  obtain ⟨h1, h2, h3, h4, h5⟩ := h
  refine ⟨cK_PF hA h1 (PF_55 hF), cP_Fr hA h2 hF (by decide), cY_Fr hA h3 hn hF (by decide), fun j hj => ?_, fun j hj => ?_⟩
  · rw [Fr_J hA hF (by decide)]; exact h4 j hj
  · rw [Fr_J hA hF (by decide)]; exact h5 j hj
/-- the program alone has changed -/
theorem CR_P (hA : Inj ad) {M' : mS} {P : aP} (h : CR ad M T tl p σ) (hF : Fr (Bk ad 12 (12 + 9)) M M') (hP : cP ad M' 12 P) (hr : pg_r P = pg_r (sgP σ)) (hv : SV (sSetP P σ)) : CR ad M' T tl p (sSetP P σ) := by
  obtain ⟨⟨h1, h2, h3, h4, h5⟩, ⟨g1, g2, g3, g4⟩, h7⟩ := h
  refine ⟨⟨cK_PF hA h1 (PF_P hF), hP, cY_Fr hA h3 h7.2.1.2.1 hF (by decide), fun j hj => ?_, fun j hj => ?_⟩, ⟨?_, g2, ?_, fun q => ?_⟩, hv⟩
  · rw [Fr_J hA hF (by decide)]
    exact h4 j (by have : j < pg_r P := hj; omega)
  · rw [Fr_J hA hF (by decide)]; exact h5 j hj
  · rw [Fr_I hA hF (by decide)]; exact g1
  · rw [Fr_I hA hF (by decide)]; exact g3
  · rw [Fr_I hA hF (by decide)]; exact g4 q
/-- the yard alone has changed -/
theorem CR_Y (hA : Inj ad) {M' : mS} {Y : aY} (h : CR ad M T tl p σ) (hF : Fr (Bk ad 38 55) M M') (hY : cY ad M' 38 Y) (hr : yd_n Y = yd_n (sgY σ)) (hv : vY 0 Y) : CR ad M' T tl p (sSetY Y σ) := by
  obtain ⟨⟨h1, h2, h3, h4, h5⟩, ⟨g1, g2, g3, g4⟩, h7⟩ := h
  refine ⟨⟨cK_PF hA h1 (PF_Y hF (by decide) (by decide)), cP_Fr hA h2 hF (by decide), hY, fun j hj => ?_, fun j hj => ?_⟩, ⟨?_, g2, ?_, fun q => ?_⟩, h7.1, hv, h7.2.2⟩
  · rw [Fr_J hA hF (by decide)]; exact h4 j hj
  · rw [Fr_J hA hF (by decide)]
    exact h5 j (by have : j < yd_n Y := hj; omega)
  · rw [Fr_I hA hF (by decide)]; exact g1
  · rw [Fr_I hA hF (by decide)]; exact g3
  · rw [Fr_I hA hF (by decide)]; exact g4 q
theorem r_kind (hS : Sh G ad) (h : CR ad M T tl p σ) : m_X2_kind G M (ad 55) = some (M, zn (kdT T tl p)) := by
  obtain ⟨⟨h1, _⟩, ⟨g1, g2, _⟩, _⟩ := h
  have := nT_le (T := T) (tl := tl)
  refine cl_eq ?_
  unfold m_X2_kind
  rw [g1]
  refine c_f (zn_nn (by omega)) (c_rf (sh_q0 hS) (c_rf (sh_k2 hS) ?_))
  rw [sh_kn2 hS]
  refine c_f (by rw [zn_le (by omega) (by omega)]; omega) (c_rf (sh_q0 hS) (c_rf (sh_k2 hS) (c_ix (by rw [sh_kn2 hS]; exact zn_in (by omega) (by decide)) (c_some ⟨rfl, ?_⟩))))
  rw [zn_nat (by omega)]
  exact (h1.2.1 p g2).1
theorem r_value (hS : Sh G ad) (h : CR ad M T tl p σ) (hp : p < nT T tl) : m_X2_value G M (ad 55) = some (M, vlT T tl p) := by
  obtain ⟨⟨h1, _⟩, ⟨g1, g2, _⟩, _⟩ := h
  have := nT_le (T := T) (tl := tl)
  refine cl_eq ?_
  unfold m_X2_value
  rw [g1]
  refine c_f (zn_nn (by omega)) (c_rf (sh_q0 hS) (c_rf (sh_k4 hS) ?_))
  rw [sh_kn4 hS]
  refine c_f (by rw [zn_le (by omega) (by omega)]; omega) (c_rf (sh_q0 hS) (c_rf (sh_k4 hS) (c_ix (by rw [sh_kn4 hS]; exact zn_in (by omega) (by decide)) (c_some ⟨rfl, ?_⟩))))
  rw [zn_nat (by omega)]
  exact h1.2.2 p hp
theorem r_adv (hA : Inj ad) (hS : Sh G ad) (h : CR ad M T tl p σ) (hp : p < nT T tl) : p_cl (m_X2_advance G M (ad 55)) (fun M' _ => CR ad M' T tl (p + 1) σ ∧ Fr (PF ad) M M') := by
  obtain ⟨h0, ⟨g1, g2, g3, g4⟩, h7⟩ := h
  have := nT_le (T := T) (tl := tl)
  unfold m_X2_advance
  refine c_rf (sh_q0 hS) ?_
  rw [h0.1.1, g1]
  refine c_f (by rw [zn_le (by omega) (by omega)]; omega) (c_wI (c_some ?_))
  rw [zn_one]
  have hF : Fr (Bk ad 55 56) M (wI M (ad 55) 5 (zn (p + 1))) := Fr_wI Fr_rf (Bk_in (by omega) (by omega))
  refine ⟨⟨CR0_55 hA h0 h7.2.1.2.1 hF, ⟨wI_eq, hp, ?_, fun q => ?_⟩, h7⟩, PF_55 hF⟩
  · rw [wI_ne hA (by decide)]; exact g3
  · rw [wI_ne hA (by decide)]; exact g4 q
theorem r_take (hA : Inj ad) (hS : Sh G ad) (hT : ∀ k, k < tl → T k < 256) (h : CR ad M T tl p σ) {k : Nat} (hk : 2 ≤ k) (hk2 : k < 1000) : p_cl (m_X2_take G M (ad 55) (zn k)) (fun M' r => (kdT T tl p = k → r = 1 ∧ CR ad M' T tl (p + 1) σ) ∧ (kdT T tl p ≠ k → r = 0 ∧ CR ad M' T tl p σ) ∧ Fr (PF ad) M M') := by
  have hb := kdT_le (T := T) (tl := tl) hT (q := p)
  unfold m_X2_take
  rw [r_kind hS h]
  refine c_cl (c_some (c_if (fun g => ?_) (fun g => ?_)))
  · rw [zn_inj (by omega) (by omega)] at g
    refine c_clm (r_adv hA hS h (kdT_lt (by omega))) ?_
    rintro M1 _ ⟨a, b⟩
    exact c_ck (Or.inr rfl) (c_some ⟨fun _ => ⟨rfl, a⟩, fun q => absurd g q, b⟩)
  · rw [zn_inj (by omega) (by omega)] at g
    exact c_ck (Or.inl rfl) (c_some ⟨fun q => absurd q g, fun _ => ⟨rfl, h⟩, Fr_rf⟩)
theorem r_complain (hA : Inj ad) (hS : Sh G ad) (h : CR ad M T tl p σ) {e : Nat} (he : e ≤ 5) : p_cl (m_X2_complain G M (ad 55) (zn e)) (fun M' _ => CR ad M' T tl p (sC e (tkP T tl p) σ) ∧ Fr (PF ad) M M') := by
  obtain ⟨h0, ⟨g1, g2, g3, g4⟩, h7⟩ := id h
  have := nT_le (T := T) (tl := tl)
  have he5 := h7.2.2.2
  unfold m_X2_complain sC
  rw [g3]
  refine c_if (fun g => ?_) (fun g => ?_)
  · rw [show (0 : Int32) = zn 0 from rfl, zn_inj (by omega) (by omega)] at g
    rw [if_pos g]
    have e3 : mI (wI M (ad 55) 6 (zn e)) (ad 61) p = zn (tkP T tl p) := by
      rw [wI_ne hA (Or.inl (by decide))]
      exact (h0.1.2.1 p g2).2
    refine c_wI ?_
    rw [wI_ne hA (show (55 : Nat) ≠ 55 ∨ (5 : Nat) ≠ 6 by decide), g1]
    refine c_f (zn_nn (by omega)) (c_rf (sh_q0 hS) (c_rf (sh_k3 hS) ?_))
    rw [sh_kn3 hS]
    refine c_f (by rw [zn_le (by omega) (by omega)]; omega) (c_rf (sh_q0 hS) (c_rf (sh_k3 hS) (c_ix (by rw [sh_kn3 hS]; exact zn_in (by omega) (by decide)) ?_)))
    rw [zn_nat (show p < 2147483648 by omega), e3]
    unfold m_X2_complain_51
    refine c_wI (c_some ?_)
    have hF : Fr (Bk ad 55 56) M (wI (wI M (ad 55) 6 (zn e)) (ad 55) 7 (zn (tkP T tl p))) := Fr_wI (Fr_wI Fr_rf (Bk_in (by omega) (by omega))) (Bk_in (by omega) (by omega))
    refine ⟨⟨CR0_55 hA h0 h7.2.1.2.1 hF, ⟨?_, g2, ?_, fun _ => wI_eq⟩, h7.1, h7.2.1, h7.2.2.1, he⟩, PF_55 hF⟩
    · rw [wI_ne hA (by decide), wI_ne hA (by decide)]; exact g1
    · rw [wI_ne hA (by decide), wI_eq]
  · rw [show (0 : Int32) = zn 0 from rfl, zn_inj (by omega) (by omega)] at g
    rw [if_neg g]
    exact c_some ⟨h, Fr_rf⟩
theorem r_ix_loop {a len : Nat} (hn : gN G (ad a) = len) (hlen : len ≤ 6) {nm : Nat → Nat} {key cnt : Nat} (hc : cnt ≤ len) (hm : ∀ j, j < cnt → mJ M (ad a) j = Int64.ofNat (nm j)) (hb : ∀ j, nm j < 9223372036854775808) (hk : key < 9223372036854775808) : ∀ (d v f : Nat), v + d = cnt → d < f → m_X2_indexOf_3 G (Int64.ofNat key) (ad a) (zn cnt) f M (zn v) = some (M, ixV (ixN nm key d v)) := by
  intro d
  induction d with
  | zero =>
    intro v f h hf
    obtain ⟨f, rfl⟩ : ∃ g, f = g + 1 := ⟨f - 1, by omega⟩
    rw [m_X2_indexOf_3, if_pos (by rw [zn_le (by omega) (by omega)]; omega)]
    rfl
  | succ d ih =>
    intro v f h hf
    obtain ⟨f, rfl⟩ : ∃ g, f = g + 1 := ⟨f - 1, by omega⟩
    rw [m_X2_indexOf_3, if_neg (by rw [zn_le (by omega) (by omega)]; omega), hn, if_neg (by rw [show Int32.ofNat len = zn len from rfl, zn_le (by omega) (by omega)]; omega), zn_nat (by omega), hm v (by omega)]
    unfold o_ix o_bd
    rw [if_neg (show ¬ (zn v < 0 ∨ len ≤ (zn v).toNatClampNeg) from zn_in (by omega) (by omega)), ixN, zn_one]
    by_cases e : nm v = key
    · rw [if_pos (lg_eq.mpr (by rw [e])), if_pos e]
      rfl
    · rw [if_neg (fun q => e ((n64_inj (hb v) hk).mp (lg_eq.mp q))), if_neg e]
      exact ih (v + 1) f (by omega) (by omega)
theorem r_ixR (hS : Sh G ad) (h : CR ad M T tl p σ) {key : Nat} (hk : key < 9223372036854775808) : m_X2_indexOf G M (Int64.ofNat key) (ad 56) (mI M (ad 12) 0) = some (M, ixV (ixN (sgN σ) key (pg_r (sgP σ)) 0)) := by
  obtain ⟨⟨_, h2, _, h4, _⟩, _, h7⟩ := h
  rw [h2.1.1]
  have := h7.1.1
  exact r_ix_loop (sh_qn3 hS) (by decide) this h4 h7.2.2.1.1 hk _ 0 fu (by omega) (by unfold fu; omega)
theorem r_ixA (hS : Sh G ad) (h : CR ad M T tl p σ) {key : Nat} (hk : key < 9223372036854775808) : m_X2_indexOf G M (Int64.ofNat key) (ad 57) (mI M (ad 38) 4) = some (M, ixV (ixN (sgA σ) key (yd_n (sgY σ)) 0)) := by
  obtain ⟨⟨_, _, h3, _, h5⟩, _, h7⟩ := h
  rw [h3.2.1.1]
  have := h7.2.1.2.1
  exact r_ix_loop (sh_qn4 hS) (by decide) this h5 h7.2.2.1.2 hk _ 0 fu (by omega) (by unfold fu; omega)
theorem ixV_nn {o : Option Nat} (h : ∀ i, o = some i → i < 1000) : (0 ≤ ixV o ↔ o ≠ none) ∧ (ixV o < 0 ↔ o = none) := by
  match o with
  | none => exact ⟨⟨fun q => absurd (show (0 : Int32) ≤ -1 from q) (by decide), fun q => absurd rfl q⟩, ⟨fun _ => rfl, fun _ => show (-1 : Int32) < 0 by decide⟩⟩
  | some i =>
    have hi := h i rfl
    have h1 : ¬ ixV (some i) < 0 := zn_nn (show i < 2147483648 by omega)
    refine ⟨⟨fun _ q => absurd q (Option.some_ne_none i), fun _ => ?_⟩, ⟨fun q => absurd q h1, fun q => absurd q (Option.some_ne_none i)⟩⟩
    show (0 : Int32) ≤ zn i
    rw [show (0 : Int32) = zn 0 from rfl, zn_le (by omega) (by omega)]
    omega
/-- the semantic of a name looked up: error 3 if there is none -/
def sLk (o : Option Nat) (pl : Nat) (σ : aS) : aS := if o = none then sC 3 pl σ else σ
theorem r_known (hA : Inj ad) (hS : Sh G ad) (h : CR ad M T tl p σ) (hk : kdT T tl p = 2) (hT : ∀ k, k < tl → T k < 256) {a : Nat} {c : Int32} {o : Option Nat} (ho : m_X2_indexOf G M (Int64.ofNat (keyT T tl p)) (ad a) c = some (M, ixV o)) (hi : ∀ i, o = some i → i < 1000) : p_cl (m_X2_knownName G M (ad 55) (ad a) c) (fun M' r => r = zn (ixD o) ∧ CR ad M' T tl (p + 1) (sLk o (tkP T tl p) σ) ∧ Fr (PF ad) M M') := by
  have hp : p < nT T tl := kdT_lt (by omega)
  unfold m_X2_knownName sLk
  rw [r_value hS h hp, (name_ok hT hk).1]
  refine c_cl (c_some ?_)
  rw [ho]
  refine c_cl (c_some (c_if (fun g => ?_) (fun g => ?_)))
  · have g2 := (ixV_nn hi).1.mp g
    rw [if_neg g2]
    unfold m_X2_knownName_19
    refine c_clm (r_adv hA hS h hp) ?_
    rintro M1 _ ⟨a1, b1⟩
    refine c_t g (c_some ⟨?_, a1, b1⟩)
    match o, g2 with
    | some i, _ => rfl
    | none, g2 => exact absurd rfl g2
  · have g2 : o = none := Classical.byContradiction (fun q => g ((ixV_nn hi).1.mpr q))
    rw [if_pos g2]
    refine c_clm (r_complain hA hS h (e := 3) (by decide)) ?_
    rintro M1 _ ⟨a1, b1⟩
    unfold m_X2_knownName_19
    refine c_clm (r_adv hA hS a1 hp) ?_
    rintro M2 _ ⟨a2, b2⟩
    refine c_f g (c_some ⟨?_, a2, Fr_tr b1 b2⟩)
    rw [g2]; rfl
/-- a number in its range, the least one for one out of it -/
def sRn (lo hi : Nat) (n pl : Nat) (σ : aS) : aS := if lo ≤ n ∧ n ≤ hi then σ else sC 5 pl σ
def nRn (lo hi n : Nat) : Nat := if lo ≤ n ∧ n ≤ hi then n else lo
theorem i64_32 {n : Nat} (h : n < 2147483648) : Int64.toInt32 (Int64.ofNat n) = zn n := by
  rw [← z64 h]
  exact Int32.toInt32_toInt64 _
theorem r_range (hA : Inj ad) (hS : Sh G ad) (h : CR ad M T tl p σ) (hk : kdT T tl p = 3) {lo hi : Nat} (hlo : lo < 1000) (hhi : hi < 1000) : p_cl (m_X2_rangedNumber G M (ad 55) (zn lo) (zn hi)) (fun M' r => r = zn (nRn lo hi (numT T tl p)) ∧ CR ad M' T tl (p + 1) (sRn lo hi (numT T tl p) (tkP T tl p) σ) ∧ Fr (PF ad) M M') := by
  have hp : p < nT T tl := kdT_lt (by omega)
  have hn := num_ok hk
  have hb : numT T tl p < 2147483648 := by omega
  have bad : ¬ (lo ≤ numT T tl p ∧ numT T tl p ≤ hi) → p_cl (m_X2_rangedNumber_16 G (ad 55) (zn lo) (zn hi) M) (fun M' r => r = zn (nRn lo hi (numT T tl p)) ∧ CR ad M' T tl (p + 1) (sRn lo hi (numT T tl p) (tkP T tl p) σ) ∧ Fr (PF ad) M M') := fun q => by
    unfold m_X2_rangedNumber_16 nRn sRn
    rw [if_neg q, if_neg q]
    refine c_clm (r_complain hA hS h (e := 5) (by decide)) ?_
    rintro M1 _ ⟨a1, b1⟩
    unfold m_X2_rangedNumber_23
    refine c_clm (r_adv hA hS a1 hp) ?_
    rintro M2 _ ⟨a2, b2⟩
    exact c_some ⟨rfl, a2, Fr_tr b1 b2⟩
  unfold m_X2_rangedNumber
  rw [r_value hS h hp, hn.1]
  refine c_cl (c_some ?_)
  rw [i64_32 hb]
  refine c_bd (c_if (fun g => ?_) (fun g => ?_))
  · rw [zn_lt hb (by omega)] at g
    exact bad (by omega)
  rw [zn_lt hb (by omega)] at g
  refine c_if (fun g2 => ?_) (fun g2 => ?_)
  · rw [zn_le hb (by omega)] at g2
    unfold m_X2_rangedNumber_23 nRn sRn
    rw [if_pos ⟨by omega, g2⟩, if_pos ⟨by omega, g2⟩]
    refine c_clm (r_adv hA hS h hp) ?_
    rintro M2 _ ⟨a2, b2⟩
    exact c_some ⟨rfl, a2, b2⟩
  · rw [zn_le hb (by omega)] at g2
    exact bad (by omega)
theorem r_isSide (hS : Sh G ad) (hT : ∀ k, k < tl → T k < 256) (h : CR ad M T tl p σ) : m_X2_isSide G M (ad 55) = some (M, if 209 ≤ kdT T tl p ∧ kdT T tl p ≤ 212 then 1 else 0) := by
  have hb := kdT_le (T := T) (tl := tl) hT (q := p)
  refine cl_eq ?_
  unfold m_X2_isSide
  rw [r_kind hS h]
  refine c_cl (c_some (c_if (fun g => ?_) (fun g => ?_)))
  · rw [show (209 : Int32) = zn 209 from rfl, zn_lt (by omega) (by omega)] at g
    unfold m_X2_isSide_24
    exact c_ck (Or.inl rfl) (c_some ⟨rfl, by rw [if_neg (by omega)]⟩)
  rw [show (209 : Int32) = zn 209 from rfl, zn_lt (by omega) (by omega)] at g
  rw [r_kind hS h]
  refine c_cl (c_some (c_if (fun g2 => ?_) (fun g2 => ?_)))
  · rw [show (212 : Int32) = zn 212 from rfl, zn_lt (by omega) (by omega)] at g2
    unfold m_X2_isSide_24
    exact c_ck (Or.inl rfl) (c_some ⟨rfl, by rw [if_neg (by omega)]⟩)
  · rw [show (212 : Int32) = zn 212 from rfl, zn_lt (by omega) (by omega)] at g2
    exact c_ck (Or.inr rfl) (c_some ⟨rfl, by rw [if_pos (by omega)]⟩)
theorem r_takeSide (hA : Inj ad) (hS : Sh G ad) (h : CR ad M T tl p σ) (hk : 209 ≤ kdT T tl p) : p_cl (m_X2_takeSide G M (ad 55)) (fun M' r => r = zn (kdT T tl p - 209) ∧ CR ad M' T tl (p + 1) σ ∧ Fr (PF ad) M M') := by
  unfold m_X2_takeSide
  rw [r_kind hS h]
  refine c_cl (c_some (c_bd ?_))
  refine c_clm (r_adv hA hS h (kdT_lt (by omega))) ?_
  rintro M1 _ ⟨a, b⟩
  exact c_some ⟨zn_sub hk, a, b⟩
end Prim
