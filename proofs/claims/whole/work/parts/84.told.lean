/-! the reference's second pass: names told ahead -/
/-- how many tokens ahead have a role -/
def cnR (ro : Nat → Nat) (r : Nat) : Nat → Nat
  | 0 => 0
  | j + 1 => cnR ro r j + if ro j = r then 1 else 0
/-- the names of a role told ahead of a token: how many, their keys -/
def NmR (T : Nat → Nat) (tl : Nat) (ro : Nat → Nat) (r j : Nat) (nm : Nat → Nat) (n : Nat) : Prop := n = cnR ro r j ∧ ∀ i, i < j → ro i = r → nm (cnR ro r i) = keyT T tl i
theorem cnR_le {ro : Nat → Nat} {r i : Nat} : ∀ j, i ≤ j → cnR ro r i ≤ cnR ro r j := by
  intro j
  induction j with
  | zero => intro h; rw [show i = 0 by omega]; exact Nat.le_refl _
  | succ j ih =>
    intro h
    by_cases e : i = j + 1
    · rw [e]; exact Nat.le_refl _
    · have := ih (by omega)
      rw [cnR]
      omega
theorem cnR_id {ro : Nat → Nat} {r : Nat} : ∀ j, cnR ro r j ≤ j := by
  intro j
  induction j with
  | zero => exact Nat.le_refl 0
  | succ j ih => rw [cnR]; split <;> omega
section Told
variable {G : gS} {ad : Nat → Nat} {T : Nat → Nat} {tl : Nat}
/-- the tokens as the reference has cut them -/
def MK (ad : Nat → Nat) (M : mS) (T : Nat → Nat) (tl : Nat) : Prop := mT ad M T tl ∧ (∀ j, j ≤ nT T tl → mI M (ad 72) j = zn (kr (kdT T tl j)) ∧ mI M (ad 73) j = zn (tkP T tl j)) ∧ ∀ j, j < nT T tl → mI M (ad 74) j = zn (lnT T tl j)
theorem name_in {q : Nat} (hT : ∀ k, k < tl → T k < 256) (h : kdT T tl q = 2) : (∀ j, j < lnT T tl q → lwB (T (tkP T tl q + j)) = true ∧ tkP T tl q + j < tl) ∧ lnT T tl q ≤ 10 := by
  have hq := kdT_lt (T := T) (tl := tl) (q := q) (by omega)
  rw [kdT_in hq] at h
  have hk := tkE_ok (T := T) (tl := tl) (p := tkP T tl q) (by omega)
  unfold lnT
  generalize tkP T tl q = p at h hk ⊢
  have e : (tkE T tl p).2 = rnE T tl true p ∧ lB (T p) = true ∧ rnE T tl true p - p ≤ 10 := by
    unfold tkE at h ⊢
    by_cases h0 : tl ≤ p
    · rw [if_pos h0] at h; exact absurd h (show ¬ (0 : Nat) = 2 by decide)
    rw [if_neg h0] at h ⊢
    by_cases h1 : lB (T p) = true
    · rw [if_pos h1] at h ⊢
      by_cases h2 : rnE T tl true p - p ≤ 10
      · rw [if_pos h2]
        exact ⟨rfl, h1, h2⟩
      · rw [if_neg h2] at h; exact absurd h (show ¬ (1 : Nat) = 2 by decide)
    rw [if_neg h1] at h
    exfalso
    by_cases h3 : dB (T p) = true
    · rw [if_pos h3] at h
      split at h
      · exact absurd h (show ¬ (3 : Nat) = 2 by decide)
      · exact absurd h (show ¬ (1 : Nat) = 2 by decide)
    rw [if_neg h3] at h
    split at h
    · have h : (if T p = 60 then 128 else 129) = 2 := h
      split at h <;> omega
    split at h
    · next h4 =>
      have := sB_t.mp h4
      have h : T p = 2 := h
      omega
    · exact absurd h (show ¬ (1 : Nat) = 2 by decide)
  rw [e.1] at hk ⊢
  have hk2 : rnE T tl true p ≤ tl := hk.2.1
  exact ⟨fun j hj => ⟨lw_all e.2.1 hk.2.2 hT j hj, by omega⟩, e.2.2⟩
theorem t_same_loop (hS : Sh G ad) (htl : tl ≤ 2000) (hT : ∀ k, k < tl → T k < 256) {M : mS} (h : MK ad M T tl) {i j : Nat} (hi : kdT T tl i = 2) (hj : kdT T tl j = 2) (hl : lnT T tl i = lnT T tl j) : ∀ (n v f : Nat), v + n = lnT T tl i → n < f → p_cl (m_X12_isSame_19 G (ad 70) (zn i) (zn j) f M (zn v)) (fun M' r => M' = M ∧ ((∀ k, v ≤ k → k < lnT T tl i → T (tkP T tl i + k) = T (tkP T tl j + k)) → r = 1) ∧ ((∃ k, v ≤ k ∧ k < lnT T tl i ∧ T (tkP T tl i + k) ≠ T (tkP T tl j + k)) → r = 0)) := by
  have hn := nT_le (T := T) (tl := tl)
  have qi := kdT_lt (T := T) (tl := tl) (q := i) (by omega)
  have qj := kdT_lt (T := T) (tl := tl) (q := j) (by omega)
  obtain ⟨ni, li⟩ := name_in hT hi
  obtain ⟨nj, lj⟩ := name_in hT hj
  obtain ⟨⟨a1, a2⟩, a3, a4⟩ := id h
  intro n
  induction n with
  | zero =>
    intro v f hv hf
    obtain ⟨f, rfl⟩ : ∃ g, f = g + 1 := ⟨f - 1, by omega⟩
    rw [m_X12_isSame_19]
    refine c_rf (sh_m6 hS) (c_ix (by rw [sh_mn6 hS]; exact zn_in (by omega) (by decide)) ?_)
    rw [zn_nat (show i < 2147483648 by omega), a4 i qi]
    refine c_t (by rw [zn_le (by omega) (by omega)]; omega) (c_ck (Or.inr rfl) (c_some ⟨rfl, fun _ => rfl, fun ⟨k, k1, k2, _⟩ => by omega⟩))
  | succ n ih =>
    intro v f hv hf
    obtain ⟨f, rfl⟩ : ∃ g, f = g + 1 := ⟨f - 1, by omega⟩
    have v1 := (ni v (by omega)).2
    have v2 := (nj v (by omega)).2
    rw [m_X12_isSame_19]
    refine c_rf (sh_m6 hS) (c_ix (by rw [sh_mn6 hS]; exact zn_in (by omega) (by decide)) ?_)
    rw [zn_nat (show i < 2147483648 by omega), zn_nat (show j < 2147483648 by omega), a4 i qi]
    refine c_f (by rw [zn_le (by omega) (by omega)]; omega) (c_rf (sh_m1 hS) (c_rf (sh_m5 hS) (c_ix (by rw [sh_mn5 hS]; exact zn_in (by omega) (by decide)) ?_)))
    rw [(a3 i (by omega)).2, zn_add]
    refine c_ix (by rw [sh_mn1 hS]; exact zn_in (by omega) (by decide)) (c_rf (sh_m1 hS) (c_rf (sh_m5 hS) (c_ix (by rw [sh_mn5 hS]; exact zn_in (by omega) (by decide)) ?_)))
    rw [(a3 j (by omega)).2, zn_add]
    refine c_ix (by rw [sh_mn1 hS]; exact zn_in (by omega) (by decide)) ?_
    rw [zn_nat (show tkP T tl i + v < 2147483648 by omega), zn_nat (show tkP T tl j + v < 2147483648 by omega), a2 _ v1, a2 _ v2]
    have w1 := hT _ v1
    have w2 := hT _ v2
    refine c_if (fun g => ?_) (fun g => ?_)
    · rw [zn_inj (by omega) (by omega)] at g
      rw [zn_one]
      refine c_bd (c_mono (ih (v + 1) f (by omega) (by omega)) ?_)
      rintro M' r ⟨e1, e2, e3⟩
      refine ⟨e1, fun q => e2 (fun k k1 k2 => q k (by omega) k2), fun ⟨k, k1, k2, k3⟩ => e3 ⟨k, ?_, k2, k3⟩⟩
      by_cases e : k = v
      · rw [e] at k3; exact absurd g k3
      · omega
    · rw [zn_inj (by omega) (by omega)] at g
      exact c_ck (Or.inl rfl) (c_some ⟨rfl, fun q => absurd (q v (Nat.le_refl _) (by omega)) g, fun _ => rfl⟩)
theorem t_same (hS : Sh G ad) (htl : tl ≤ 2000) (hT : ∀ k, k < tl → T k < 256) {M : mS} (h : MK ad M T tl) {i j : Nat} (hi : kdT T tl i = 2) (hj : kdT T tl j = 2) : m_X12_isSame G M (ad 70) (zn i) (zn j) = some (M, if keyT T tl i = keyT T tl j then 1 else 0) := by
  have hn := nT_le (T := T) (tl := tl)
  have qi := kdT_lt (T := T) (tl := tl) (q := i) (by omega)
  have qj := kdT_lt (T := T) (tl := tl) (q := j) (by omega)
  obtain ⟨ni, li⟩ := name_in hT hi
  obtain ⟨nj, lj⟩ := name_in hT hj
  have inj := pkN_inj (T := T) (U := T) (s := tkP T tl i) (u := tkP T tl j) (lnT T tl i) (lnT T tl j) (fun k hk => (ni k hk).1) (fun k hk => (nj k hk).1)
  obtain ⟨⟨a1, a2⟩, a3, a4⟩ := id h
  refine cl_eq ?_
  unfold m_X12_isSame
  refine c_rf (sh_m6 hS) (c_ix (by rw [sh_mn6 hS]; exact zn_in (by omega) (by decide)) (c_rf (sh_m6 hS) (c_ix (by rw [sh_mn6 hS]; exact zn_in (by omega) (by decide)) ?_)))
  rw [zn_nat (show i < 2147483648 by omega), zn_nat (show j < 2147483648 by omega), a4 i qi, a4 j qj]
  refine c_if (fun g => ?_) (fun g => ?_)
  · rw [zn_inj (by omega) (by omega)] at g
    refine c_mono (t_same_loop hS htl hT h hi hj g (lnT T tl i) 0 fu (by omega) (by unfold fu; omega)) ?_
    rintro M' r ⟨e1, e2, e3⟩
    refine ⟨e1, ?_⟩
    by_cases e : keyT T tl i = keyT T tl j
    · rw [if_pos e]
      exact e2 (fun k _ k2 => (inj e).2 k k2)
    · rw [if_neg e]
      refine e3 (Classical.byContradiction (fun q => e ?_))
      unfold keyT
      rw [← g]
      exact pkN_congr _ (fun k hk => Classical.byContradiction (fun q2 => q ⟨k, Nat.zero_le _, hk, q2⟩))
  · rw [zn_inj (by omega) (by omega)] at g
    refine c_ck (Or.inl rfl) (c_some ⟨rfl, ?_⟩)
    rw [if_neg (show ¬ keyT T tl i = keyT T tl j from fun e => g (inj e).1)]
theorem t_told_loop (hS : Sh G ad) (htl : tl ≤ 2000) (hT : ∀ k, k < tl → T k < 256) {M : mS} (h : MK ad M T tl) {ro : Nat → Nat} (hr : ∀ j, j ≤ nT T tl → mI M (ad 75) j = zn (ro j)) (hro : ∀ j, ro j < 1000) {r j : Nat} (hr1 : r < 1000) (hk : ∀ i, i < j → ro i = r → kdT T tl i = 2) (hj : kdT T tl j = 2) {nm : Nat → Nat} {n : Nat} (hN : NmR T tl ro r j nm n) : ∀ (d v f : Nat), v + d = j → d < f → m_X12_told_5 G (ad 70) (zn j) (zn r) f M (zn (cnR ro r v)) (zn v) = some (M, ixV (ixN nm (keyT T tl j) (n - cnR ro r v) (cnR ro r v))) := by
  have hn := nT_le (T := T) (tl := tl)
  have qj := kdT_lt (T := T) (tl := tl) (q := j) (by omega)
  intro d
  induction d with
  | zero =>
    intro v f hv hf
    obtain ⟨f, rfl⟩ : ∃ g, f = g + 1 := ⟨f - 1, by omega⟩
    have hv : v = j := by omega
    subst hv
    rw [m_X12_told_5, if_pos (Int32.le_refl _), hN.1, Nat.sub_self]
    rfl
  | succ d ih =>
    intro v f hv hf
    obtain ⟨f, rfl⟩ : ∃ g, f = g + 1 := ⟨f - 1, by omega⟩
    have hc := cnR_id (ro := ro) (r := r) v
    have hro := hro v
    refine cl_eq ?_
    rw [m_X12_told_5]
    refine c_f (by rw [zn_le (by omega) (by omega)]; omega) (c_rf (sh_m7 hS) (c_ix (by rw [sh_mn7 hS]; exact zn_in (by omega) (by decide)) ?_))
    rw [zn_nat (show v < 2147483648 by omega), hr v (by omega)]
    have e1 : cnR ro r (v + 1) = cnR ro r v + if ro v = r then 1 else 0 := rfl
    refine c_if (fun g => ?_) (fun g => ?_)
    · rw [zn_inj (by omega) (by omega)] at g
      rw [if_pos g] at e1
      have hle := cnR_le (ro := ro) (r := r) (i := v + 1) j (by omega)
      have hnn := hN.1
      rw [t_same hS htl hT h (hk v (by omega) g) hj]
      have es : n - cnR ro r v = (n - cnR ro r (v + 1)) + 1 := by omega
      rw [es, ixN, hN.2 v (by omega) g]
      refine c_cl (c_some ?_)
      by_cases e : keyT T tl v = keyT T tl j
      · rw [if_pos e, if_pos e]
        exact c_f (by decide) (c_some ⟨rfl, rfl⟩)
      · rw [if_neg e, if_neg e]
        refine c_t rfl (c_bd ?_)
        unfold m_X12_told_40
        rw [zn_one, zn_one, ← e1]
        refine c_bd ?_
        show p_cl (m_X12_told_5 G (ad 70) (zn j) (zn r) f M (zn (cnR ro r (v + 1))) (zn (v + 1))) _
        rw [ih (v + 1) f (by omega) (by omega)]
        exact c_some ⟨rfl, rfl⟩
    · rw [zn_inj (by omega) (by omega)] at g
      rw [if_neg g] at e1
      unfold m_X12_told_40
      rw [zn_one]
      refine c_bd ?_
      show p_cl (m_X12_told_5 G (ad 70) (zn j) (zn r) f M (zn (cnR ro r v)) (zn (v + 1))) _
      have := ih (v + 1) f (by omega) (by omega)
      rw [e1, Nat.add_zero] at this
      rw [this]
      exact c_some ⟨rfl, rfl⟩
/-- a name is looked for among those told ahead -/
theorem t_told (hS : Sh G ad) (htl : tl ≤ 2000) (hT : ∀ k, k < tl → T k < 256) {M : mS} (h : MK ad M T tl) {ro : Nat → Nat} (hr : ∀ j, j ≤ nT T tl → mI M (ad 75) j = zn (ro j)) (hro : ∀ j, ro j < 1000) {r j : Nat} (hr1 : r < 1000) (hk : ∀ i, i < j → ro i = r → kdT T tl i = 2) (hj : kdT T tl j = 2) {nm : Nat → Nat} {n : Nat} (hN : NmR T tl ro r j nm n) : m_X12_told G M (ad 70) (zn j) (zn r) = some (M, ixV (ixN nm (keyT T tl j) n 0)) := by
  have qj := kdT_lt (T := T) (tl := tl) (q := j) (by omega)
  have hn := nT_le (T := T) (tl := tl)
  exact t_told_loop hS htl hT h hr hro hr1 hk hj hN j 0 fu (by omega) (by unfold fu; omega)
end Told
