/-! texts in the making: a number behind -/
def dgL (m : Nat) : List Nat := if m < 10 then [48 + m] else [48 + m / 10, 48 + m % 10]
theorem dg_0 : ∀ m : Nat, m < 100 → vp_nar .byte (f_D 0 m) = zn (48 + m % 10) := by decide +kernel
theorem dg_1 : ∀ m : Nat, m < 100 → vp_nar .byte (f_D 1 m) = zn (48 + m / 10) := by decide +kernel
theorem ng_a : ∀ m : Nat, m < 100 → ((-(zn m) ≤ (-10 : Int32)) ↔ 10 ≤ m) ∧ ¬ (-(zn m) ≤ (10 : Int32) * (-10 : Int32)) ∧ ((-100 : Int32) < -(zn m)) ∧ (((-9 : Int32) ≤ -(zn m)) ↔ m < 10) ∧ -(-(zn m)) = zn m ∧ ((0 : Int32) ≤ zn m) := by decide +kernel
section IntApp
variable {G : gS} {M : mS} {rl : Nat → Nat} {r a v cap : Nat} {L S : List Nat} {b u : uS}
theorem tb_set (h : TB G M rl r a v cap L) (hl : L.length + S.length ≤ cap) {M' : mS} (hne : ∀ x, x ≠ v → x ≠ a → mI M' x = mI M x) (hJ : ∀ x, mJ M' x = mJ M x) (hv : ∀ k, mI M' v k = if L.length ≤ k ∧ k < L.length + S.length then zn (S.getD (k - L.length) 0) else mI M v k) (ha : ∀ k, mI M' a k = if k = 3 then zn (L.length + S.length) else mI M a k) (hS : asc S) : TB G M' rl r a v cap (L ++ S) ∧ Kt r G M rl G M' rl := by
  obtain ⟨⟨a1, a2⟩, ⟨v1, v2, v3, v4⟩, c0, l0, lc, c6, by0, tx⟩ := h
  refine ⟨⟨⟨a1, a2⟩, ⟨v1, v2, v3, v4⟩, ?_, ?_, ?_, c6, fun k hk => ?_, fun k hk => ?_⟩, fun x hx => ⟨hx, rfl, rfl, rfl, fun n1 n2 => ⟨rfl, hne x (fun e => n2 (e ▸ v3)) (fun e => n1 (e ▸ a2)), hJ x⟩⟩⟩
  · rw [ha, if_neg (by decide)]; exact c0
  · rw [ha, if_pos rfl, List.length_append]
  · rw [List.length_append]; exact hl
  · rw [hv]
    by_cases e : L.length ≤ k ∧ k < L.length + S.length
    · rw [if_pos e]
      exact ⟨_, hS _ (by omega), rfl⟩
    · rw [if_neg e]
      exact by0 k hk
  · rw [hv]
    rw [List.length_append] at hk
    by_cases e : L.length ≤ k
    · rw [if_pos ⟨e, hk⟩, gd_r e]
    · rw [if_neg (fun z => e z.1), gd_l (by omega)]
      exact tx k (by omega)
theorem dgL_asc {m : Nat} (hm : m < 100) : asc (dgL m) := by
  intro k hk
  unfold dgL at hk ⊢
  split at hk
  · next e =>
    rw [if_pos e]
    have : k = 0 := by simp at hk; omega
    subst this
    show 48 + m < 128
    omega
  · next e =>
    rw [if_neg e]
    have : k = 0 ∨ k = 1 := by simp at hk; omega
    rcases this with rfl | rfl
    · show 48 + m / 10 < 128
      omega
    · show 48 + m % 10 < 128
      omega
theorem j_size {m : Nat} (hm : m < 100) {post : gS → mS → Int32 → Prop} (H : post G M (zn (dgL m).length)) : n_J6_stringSize_0f7a4 b G M (zn m) post := by
  obtain ⟨h1, h2, _, _, _, h6⟩ := ng_a m hm
  unfold n_J6_stringSize_0f7a4 nb_J6_stringSize_0f7a4_11
  refine i_f (zn_nn (by omega)) (i_bd ⟨fun n u1 G1 M1 v0 v1 v2 v3 => G1 = G ∧ M1 = M ∧ v0 = -(zn m) ∧ v1 = 0 ∧ ((n = 1 ∧ v2 = -10 ∧ v3 = 1) ∨ (n = 0 ∧ v2 = (10 : Int32) * (-10 : Int32) ∧ v3 = 2 ∧ 10 ≤ m)), 1, ⟨rfl, rfl, rfl, rfl, Or.inl ⟨rfl, rfl, rfl⟩⟩, ?_⟩)
  rintro n u1 G1 M1 v0 v1 v2 v3 ⟨rfl, rfl, rfl, rfl, ⟨rfl, rfl, rfl⟩ | ⟨rfl, rfl, rfl, h10⟩⟩
  · unfold nb_J6_stringSize_0f7a4_16
    refine i_f (by decide) (i_if (fun k => i_bd (i_bd ⟨0, by decide, rfl, rfl, rfl, rfl, Or.inr ⟨rfl, rfl, by decide, h1.mp k⟩⟩)) (fun k => ?_))
    have hm10 : m < 10 := by
      have : ¬ 10 ≤ m := fun z => k (h1.mpr z)
      omega
    have e : (dgL m).length = 1 := by unfold dgL; rw [if_pos hm10]; rfl
    rw [e] at H
    exact H
  · unfold nb_J6_stringSize_0f7a4_16
    refine i_f (by decide) (i_f h2 ?_)
    have e : (dgL m).length = 2 := by unfold dgL; rw [if_neg (by omega)]; rfl
    rw [e] at H
    exact H
end IntApp
