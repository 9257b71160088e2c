/-! the yard by hand: a row more -/
section With
variable {G : gS} {M : mS} {a x n : Nat} {b : uS}
theorem s_with (hn : gN G a = n) (hn2 : n < 1000) (hp : ∀ i, i < n → ∃ y, gP G a i = some y) (ha : a ∈ gL G) {post : gS → mS → Nat → Prop} (hB : uL (1, n + 1) b) (hk : ∀ G' y, y ∉ gL G → (∀ z, z ≠ y → gP G' z = gP G z) → gL G' = gL G ++ [y] → gK G' = va_up (gK G) y 15 → gN G' = va_up (gN G) y (n + 1) → (∀ i, i < n → gP G' y i = gP G a i) → gP G' y n = some x → post G' (wZ M y) y) : n_X10_with b G M a x post := by
  unfold n_X10_with
  rw [hn]
  refine i_na (N := n + 1) (zn_one n) (by omega) ⟨Nat.le_trans (Nat.le_of_eq (Nat.zero_add _)) hB.1, Nat.le_trans (Nat.le_of_eq (Nat.zero_add _)) hB.2⟩ (fun y hy => ?_)
  have nay : a ≠ y := mem_ne ha hy
  refine ⟨fun m u1 G1 M1 v2 v3 => M1 = wZ M y ∧ v2 = y ∧ gL G1 = gL G ++ [y] ∧ gK G1 = va_up (gK G) y 15 ∧ gN G1 = va_up (gN G) y (n + 1) ∧ (∀ z, z ≠ y → gP G1 z = gP G z) ∧ ∃ i, m + i = n ∧ v3 = zn i ∧ ∀ j, j < i → gP G1 y j = gP G a j, n, ⟨rfl, rfl, rfl, rfl, rfl, fun z hz => up_ne hz, 0, rfl, rfl, fun j hj => absurd hj (Nat.not_lt_zero j)⟩, ?_⟩
  rintro m u1 G1 M1 v2 v3 ⟨rfl, rfl, eL, eK, eN, eP, i, hi, rfl, hj⟩
  have gy : gN G1 v2 = n + 1 := by rw [eN]; exact up_eq
  have ga : gN G1 a = n := by rw [eN]; exact (up_ne nay).trans hn
  unfold nb_X10_with_10
  rw [ga]
  by_cases e : i = n
  · subst e
    refine i_t ((zn_le (by omega) (by omega)).mpr (Nat.le_refl _)) (i_ix (by rw [gy]; exact zn_in (by omega) (by omega)) ?_)
    rw [show (Int32.ofNat i).toNatClampNeg = i from zn_nat (by omega)]
    refine i_sR (hk _ v2 hy (fun z hz => by rw [gSt_ne hz]; exact eP z hz) eL eK eN (fun k hk2 => ?_) (by rw [gSt_eq, if_pos rfl]))
    rw [gSt_eq, if_neg (by omega)]
    exact hj k hk2
  · have hi2 : i < n := by omega
    obtain ⟨z, hz⟩ := hp i hi2
    refine i_f (by show ¬ zn n ≤ zn i; rw [zn_le (by omega) (by omega)]; omega) (i_ix (zn_in hi2 (by omega)) ?_)
    rw [zn_nat (by omega)]
    refine i_rf (show gP G1 a i = some z by rw [eP a nay]; exact hz) (i_ix (by rw [gy]; exact zn_in (by omega) (by omega)) (i_sR (i_bd ⟨m - 1, by omega, rfl, rfl, eL, eK, eN, fun w hw => by rw [gSt_ne hw]; exact eP w hw, i + 1, by omega, zn_one i, fun j hj2 => ?_⟩)))
    rw [gSt_eq]
    by_cases ej : j = i
    · rw [if_pos ej, ej]; exact hz.symm
    · rw [if_neg ej]
      exact hj j (by omega)
end With
