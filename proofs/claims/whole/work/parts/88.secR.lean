/-! the reference's second pass: what it holds, and its step -/
/-- the plan being read, against the class's program and yard; c places are kept -/
def RP (ad : Nat → Nat) (M : mS) (P : aP) (Y : aY) (c : Nat) : Prop :=
  (mI M (ad 126) 0 = zn (pg_r P) ∧ mI M (ad 126) 3 = zn (yd_n Y) ∧ mI M (ad 126) 11 = zn (pg_o P) ∧ mI M (ad 126) 4 = zn c) ∧
  ((∀ r, r < pg_r P → mI M (ad 127) r = zn (pg_z P r)) ∧ (∀ r, pg_r P ≤ r → r < 5 → mI M (ad 127) r = 0) ∧ ∀ r, r < pg_r P → ∀ k, k < pg_z P r → mI M (ad 128) (6 * r + k) = zn (pg_t P r k)) ∧
  ((∀ i, i < yd_n Y → mI M (ad 130) i = zn (an_r (yd_a Y i)) ∧ mI M (ad 131) i = zn (an_x (yd_a Y i)) ∧ mI M (ad 132) i = zn (an_y (yd_a Y i)) ∧ mI M (ad 133) i = zn (an_s (yd_a Y i))) ∧ ∀ i, yd_n Y ≤ i → i < 6 → mI M (ad 130) i = 0 ∧ mI M (ad 131) i = 0 ∧ mI M (ad 132) i = 0 ∧ mI M (ad 133) i = 0) ∧
  (∀ q, q < 4096 → mI M (ad 134) q = zn (yd_c Y q)) ∧
  (∀ k, k < pg_o P → mI M (ad 135) k = zn (pg_k P k - 200) ∧ mI M (ad 136) k = zn (pg_f P k) ∧ mI M (ad 137) k = zn (pg_s P k)) ∧ ∀ k, pg_o P ≤ k → k < 20 → mI M (ad 136) k = 0 ∧ mI M (ad 137) k = 0
section SecR
variable {G : gS} {ad : Nat → Nat} {M : mS} {T : Nat → Nat} {tl : Nat}
/-- the step of the pass -/
theorem t_step (hS : Sh G ad) {j x f : Nat} (h9 : mI M (ad 70) 9 = zn j) (hj : j < x) (hx : x ≤ 400) {E : mS → Int32 → Prop} {Q : mS → Int32 → Prop} (he : p_cl (m_X12_errorOf G M (ad 70) (zn j)) E) (H0 : ∀ M', E M' 0 → p_cl (m_X12_read_57 G (ad 70) f (wI M' (ad 70) 9 (mI M' (ad 70) 9 + 1)) (zn x)) Q) (H1 : ∀ M' e, E M' e → e ≠ 0 → mI M' (ad 70) 9 = zn j ∧ Q (wI M' (ad 70) 3 (mI M' (ad 73) j)) e) : p_cl (m_X12_read_57 G (ad 70) (f + 1) M (zn x)) Q := by
  rw [m_X12_read_57, h9]
  refine c_f (by rw [zn_le (by omega) (by omega)]; omega) (c_clm he ?_)
  intro M1 e h1
  refine c_if (fun g => ?_) (fun g => ?_)
  · rw [g] at h1
    exact c_wI (H0 M1 h1)
  · obtain ⟨a, b⟩ := H1 M1 e h1 g
    refine c_rf (sh_m5 hS) ?_
    rw [a]
    refine c_ix (by rw [sh_mn5 hS]; exact zn_in (by omega) (by decide)) (c_wI (c_some ?_))
    rw [zn_nat (show j < 2147483648 by omega)]
    exact b
/-- a token of no role -/
theorem e_none (hS : Sh G ad) (hq : gP G (ad 70) 12 = some (ad 126)) {j r : Nat} (hj : j < 401) (hr : mI M (ad 75) j = zn r) (h0 : r = 0 ∨ (15 ≤ r ∧ r < 1000)) : m_X12_errorOf G M (ad 70) (zn j) = some (M, 0) := by
  have no : ∀ {n : Nat}, n < 1000 → r ≠ n → ¬ zn r = OfNat.ofNat n := fun hn h q => h ((zn_lit (by omega) hn).mp q)
  refine cl_eq ?_
  unfold m_X12_errorOf
  refine c_rf hq (c_rf (sh_m7 hS) (c_ix (by rw [sh_mn7 hS]; exact zn_in (by omega) (by decide)) ?_))
  rw [zn_nat (show j < 2147483648 by omega), hr]
  refine c_f (no (n := 1) (by decide) (by omega)) (c_f (no (n := 2) (by decide) (by omega)) (c_f (no (n := 3) (by decide) (by omega)) (c_f (no (n := 4) (by decide) (by omega)) (c_f (no (n := 5) (by decide) (by omega)) (c_f (no (n := 6) (by decide) (by omega)) (c_f (no (n := 7) (by decide) (by omega)) ?_))))))
  exact c_f (no (n := 8) (by decide) (by omega)) (c_f (no (n := 9) (by decide) (by omega)) (c_f (no (n := 10) (by decide) (by omega)) (c_f (no (n := 11) (by decide) (by omega)) (c_f (no (n := 12) (by decide) (by omega)) (c_f (no (n := 13) (by decide) (by omega)) (c_f (no (n := 14) (by decide) (by omega)) (c_some ⟨rfl, rfl⟩)))))))
/-- a new rule -/
theorem RP_rule (hA : Inj ad) {P : aP} {Y : aY} {c : Nat} (h : RP ad M P Y c) (hr : pg_r P < 5) : RP ad (wI M (ad 126) 0 (zn (pg_r P + 1))) (pRule P) Y c := by
  obtain ⟨⟨a1, a2, a3, a4⟩, ⟨b1, b2, b3⟩, ⟨c1, c2⟩, d1, e1, e2⟩ := h
  refine ⟨⟨wI_eq, ?_, ?_, ?_⟩, ⟨fun r h1 => ?_, fun r h1 h2 => ?_, fun r h1 k h2 => ?_⟩, ⟨fun i hi => ?_, fun i h1 h2 => ?_⟩, fun q hq => ?_, fun k hk => ?_, fun k h1 h2 => ?_⟩
  · rw [wI_ne hA (Or.inr (by decide))]; exact a2
  · rw [wI_ne hA (Or.inr (by decide))]; exact a3
  · rw [wI_ne hA (Or.inr (by decide))]; exact a4
  · have h1 : r < pg_r P + 1 := h1
    rw [wI_ne hA (Or.inl (by decide))]
    show _ = zn (if r = pg_r P then 0 else pg_z P r)
    by_cases e : r = pg_r P
    · rw [if_pos e]; exact b2 r (by omega) (by omega)
    · rw [if_neg e]; exact b1 r (by omega)
  · have h1 : pg_r P + 1 ≤ r := h1
    rw [wI_ne hA (Or.inl (by decide))]
    exact b2 r (by omega) h2
  · have h1 : r < pg_r P + 1 := h1
    have h2 : k < if r = pg_r P then 0 else pg_z P r := h2
    rw [wI_ne hA (Or.inl (by decide))]
    by_cases e : r = pg_r P
    · rw [if_pos e] at h2; omega
    · rw [if_neg e] at h2; exact b3 r (by omega) k h2
  · rw [wI_ne hA (Or.inl (by decide)), wI_ne hA (Or.inl (by decide)), wI_ne hA (Or.inl (by decide)), wI_ne hA (Or.inl (by decide))]; exact c1 i hi
  · rw [wI_ne hA (Or.inl (by decide)), wI_ne hA (Or.inl (by decide)), wI_ne hA (Or.inl (by decide)), wI_ne hA (Or.inl (by decide))]; exact c2 i h1 h2
  · rw [wI_ne hA (Or.inl (by decide))]; exact d1 q hq
  · rw [wI_ne hA (Or.inl (by decide)), wI_ne hA (Or.inl (by decide)), wI_ne hA (Or.inl (by decide))]; exact e1 k hk
  · rw [wI_ne hA (Or.inl (by decide)), wI_ne hA (Or.inl (by decide))]; exact e2 k h1 h2
end SecR
