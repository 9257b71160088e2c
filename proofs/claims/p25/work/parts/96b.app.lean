/-! texts in the making: a text behind -/
def asc (S : List Nat) : Prop := ∀ k, k < S.length → S.getD k 0 < 128
theorem gd_l {L S : List Nat} {k : Nat} (h : k < L.length) : (L ++ S).getD k 0 = L.getD k 0 := by
  rw [List.getD_eq_getElem?_getD, List.getD_eq_getElem?_getD, List.getElem?_append_left h]
theorem gd_r {L S : List Nat} {k : Nat} (h : L.length ≤ k) : (L ++ S).getD k 0 = S.getD (k - L.length) 0 := by
  rw [List.getD_eq_getElem?_getD, List.getD_eq_getElem?_getD, List.getElem?_append_right h]
theorem cpyd_at {f g : Nat → Int32} {d n k : Nat} : va_cpy f g 0 d n k = if d ≤ k ∧ k < d + n then f (k - d) else g k := by
  unfold va_cpy
  by_cases e : d ≤ k ∧ k < d + n
  · rw [if_pos e, if_pos e]
    congr 1
    omega
  · rw [if_neg e, if_neg e]
section App
variable {G : gS} {M : mS} {rl : Nat → Nat} {r a v cap : Nat} {L S : List Nat} {b u : uS}
theorem tb_put (h : TB G M rl r a v cap L) (hl : L.length + S.length ≤ cap) {f : Nat → Int32} (hf : ∀ k, k < S.length → f k = zn (S.getD k 0)) (hS : asc S) : TB G (wI (wC M v (va_cpy f (mI M v) 0 L.length S.length)) a 3 (zn (L.length + S.length))) rl r a v cap (L ++ S) ∧ Kt r G M rl G (wI (wC M v (va_cpy f (mI M v) 0 L.length S.length)) a 3 (zn (L.length + S.length))) rl := by
  obtain ⟨⟨a1, a2⟩, ⟨v1, v2, v3, v4⟩, c0, l0, lc, c6, by0, tx⟩ := h
  have nva : v ≠ a := rl_ne (rl := rl) (by omega)
  have ev : ∀ k, mI (wI (wC M v (va_cpy f (mI M v) 0 L.length S.length)) a 3 (zn (L.length + S.length))) v k = if L.length ≤ k ∧ k < L.length + S.length then f (k - L.length) else mI M v k := fun k => by
    rw [mI_ne nva, mI_wC, if_pos rfl, cpyd_at]
  refine ⟨⟨⟨a1, a2⟩, ⟨v1, v2, v3, v4⟩, ?_, ?_, ?_, c6, fun k hk => ?_, fun k hk => ?_⟩, Kt_tr (Kt_wC (Or.inr v3)) (Kt_wI (Or.inl a2))⟩
  · rw [mI_eq, if_neg (by decide), mI_wC, if_neg (fun e => nva e.symm)]; exact c0
  · rw [mI_eq, if_pos rfl, List.length_append]
  · rw [List.length_append]; exact hl
  · rw [ev]
    by_cases e : L.length ≤ k ∧ k < L.length + S.length
    · rw [if_pos e, hf _ (by omega)]
      exact ⟨_, hS _ (by omega), rfl⟩
    · rw [if_neg e]
      exact by0 k hk
  · rw [ev]
    rw [List.length_append] at hk
    by_cases e : L.length ≤ k
    · rw [if_pos ⟨e, hk⟩, hf _ (by omega), gd_r e]
    · rw [if_neg (fun z => e z.1), gd_l (by omega)]
      exact tx k (by omega)
/-- the literal of this number is S -/
def STR (n : Nat) (S : List Nat) : Prop := sN n = S.length ∧ (∀ k, k < S.length → sB n k = zn (S.getD k 0)) ∧ asc S
theorem i_coder {n : Nat} {post : gS → mS → Int32 → Prop} (H : post G M 0) : n_J0_coder_7d493 b G M n post := by
  unfold n_J0_coder_7d493 nb_J0_coder_7d493_14
  exact i_f (by decide) (i_ck (by decide) H)
/-- a literal behind -/
theorem j_lit (h : TB G M rl r a v cap L) {n : Nat} (hs : STR n S) (hL : L.length + S.length < 100000) (hc : cap < 400000) {post : gS → mS → Nat → Prop} (hB : uL (apC cap (L.length + S.length)) b) (hk : ∀ G' M' rl' v', Kt r G M rl G' M' rl' → TB G' M' rl' r a v' (apN cap (L.length + S.length)) (L ++ S) → post G' M' a) : n_J4_append_15ec4 b G M a n post := by
  obtain ⟨s1, s2, s3⟩ := hs
  unfold n_J4_append_15ec4
  refine ⟨apC cap (L.length + S.length), ⟨Nat.le_trans (Nat.le_of_eq (Nat.zero_add _)) hB.1, Nat.le_trans (Nat.le_of_eq (Nat.zero_add _)) hB.2⟩, ?_⟩
  unfold n_J5_append_cf1ce n_J0_length_8abf5
  refine i_ca0 ⟨Nat.zero_le _, Nat.zero_le _⟩ (i_ca0 ⟨Nat.zero_le _, Nat.zero_le _⟩ (i_coder ?_))
  rw [sh_0.1, s1]
  dsimp only
  rw [h.2.2.2.1, show zn L.length + Int32.ofNat S.length = zn (L.length + S.length) from zn_add _ _]
  refine ⟨apC cap (L.length + S.length), ⟨Nat.le_of_eq (Nat.zero_add _), Nat.le_of_eq (Nat.zero_add _)⟩, j_room h (by omega) hc ⟨Nat.le_refl _, Nat.le_refl _⟩ (fun G1 M1 rl1 v1 k1 h1 => ?_)⟩
  have hu : uL (uP (uP (0, 0) (0, 0)) (apC cap (L.length + S.length))) (apC cap (L.length + S.length)) := ⟨Nat.le_of_eq (Nat.zero_add _), Nat.le_of_eq (Nat.zero_add _)⟩
  have hcap : L.length + S.length ≤ apN cap (L.length + S.length) := by
    unfold apN
    split
    · assumption
    · split <;> omega
  obtain ⟨t1, t2⟩ := tb_put h1 hcap s2 s3
  obtain ⟨⟨a1, a2⟩, ⟨w1, w2, w3, w4⟩, c0, l0, lc, c6, by0, tx⟩ := h1
  refine i_ca0 hu ?_
  unfold n_J5_putStringAt_47b60 n_J5_inflateIfNeededFor_a7421 nb_J5_inflateIfNeededFor_a7421_21 n_J0_getBytes_840e7 nb_J0_getBytes_840e7_43
  refine i_ca0 ⟨Nat.zero_le _, Nat.zero_le _⟩ (i_f (by decide) (i_ca0 ⟨Nat.zero_le _, Nat.zero_le _⟩ (i_coder (i_t c0 (i_rf w1 (i_ca0 ⟨Nat.zero_le _, Nat.zero_le _⟩ (i_ca0 ⟨Nat.zero_le _, Nat.zero_le _⟩ (i_coder ?_))))))))
  rw [c0, l0, sh_0.2, s1, w4, zn_nat (by omega), show (Int32.ofNat S.length).toNatClampNeg = S.length from zn_nat (by omega), nat_0]
  refine i_t rfl ⟨⟨by decide, zn_nn (by omega), zn_nn (by omega), ?_, ?_, fun i hi => ?_⟩, i_wC (i_wI ?_)⟩
  · rw [nat_0, zn_nat (by omega)]; omega
  · rw [zn_nat (by omega), zn_nat (by omega)]; exact hcap
  · rw [zn_nat (by omega)] at hi
    rw [nat_0, Nat.zero_add, s2 i hi]
    exact fits_b _ (s3 i hi)
  · have nva : v1 ≠ a := rl_ne (rl := rl1) (by omega)
    have el : mI (wC M1 v1 (va_cpy (sB n) (mI M1 v1) 0 L.length S.length)) a 3 = zn L.length := by
      rw [mI_wC, if_neg (fun e => nva e.symm)]; exact l0
    rw [el, show zn L.length + Int32.ofNat S.length = zn (L.length + S.length) from zn_add _ _]
    exact hk _ _ rl1 v1 (Kt_tr k1 t2) t1
end App
