/-! texts in the making: a number behind, all of it -/
section IntApp2
variable {G : gS} {M : mS} {rl : Nat → Nat} {r a v cap : Nat} {L S : List Nat} {b u : uS}
theorem zn_m1 {a : Nat} (h : 1 ≤ a) : zn a + (-1 : Int32) = zn (a - 1) := by
  rw [← Int32.sub_eq_add_neg]
  exact zn_sub (b := 1) h
/-- the digits are put -/
def dgM (M : mS) (v d m : Nat) : mS := if m < 10 then wI M v d (zn (48 + m % 10)) else wI (wI M v (d + 1) (zn (48 + m % 10))) v d (zn (48 + m / 10))
theorem j_chars {m d : Nat} (hm : m < 100) (hd : d < 100000) (hN : d + (dgL m).length ≤ gN G v) (hN2 : gN G v < 1000000) {post : gS → mS → Int32 → Prop} (H : ∀ x, post G (dgM M v d m) x) : n_J6_getChars_ba4f3 b G M (zn m) (zn (d + (dgL m).length)) v post := by
  obtain ⟨h1, h2, h3, h4, h5, h6⟩ := ng_a m hm
  unfold n_J6_getChars_ba4f3 nb_J6_getChars_ba4f3_12
  refine i_t h6 (i_t rfl (i_bd ⟨fun n u1 G1 M1 v0 v5 v6 => G1 = G ∧ M1 = M ∧ v0 = -(zn m) ∧ v5 = zn (d + (dgL m).length) ∧ v6 = 0, 0, ⟨rfl, rfl, rfl, rfl, rfl⟩, ?_⟩))
  rintro n u1 G1 M1 v0 v5 v6 ⟨rfl, rfl, rfl, rfl, rfl⟩
  unfold nb_J6_getChars_ba4f3_22 nb_J6_getChars_ba4f3_104 nb_J6_getChars_ba4f3_118
  by_cases e : m < 10
  · have el : (dgL m).length = 1 := by unfold dgL; rw [if_pos e]; rfl
    have eM : dgM M1 v d m = wI M1 v d (zn (48 + m % 10)) := by unfold dgM; rw [if_pos e]
    rw [el] at hN
    rw [eM] at H
    rw [el, h5, zn_m1 (by omega), show d + 1 - 1 = d by omega, zn_nat (a := m) (by omega), dg_0 m hm]
    refine i_t h3 (i_bd (i_ix (zn_in hm (by decide)) (i_ix (zn_in (by omega) (by omega)) ?_)))
    rw [zn_nat (a := d) (by omega)]
    exact i_wI (i_t (h4.mpr e) (i_t rfl (H _)))
  · have el : (dgL m).length = 2 := by unfold dgL; rw [if_neg e]; rfl
    have eM : dgM M1 v d m = wI (wI M1 v (d + 1) (zn (48 + m % 10))) v d (zn (48 + m / 10)) := by unfold dgM; rw [if_neg e]
    rw [el] at hN
    rw [eM] at H
    rw [el, h5, zn_m1 (by omega), show d + 2 - 1 = d + 1 by omega, zn_nat (a := m) (by omega), dg_0 m hm, dg_1 m hm]
    refine i_t h3 (i_bd (i_ix (zn_in hm (by decide)) (i_ix (zn_in (by omega) (by omega)) ?_)))
    rw [zn_nat (a := d + 1) (by omega), zn_m1 (by omega), show d + 1 - 1 = d by omega]
    refine i_wI (i_f (fun z => e (h4.mp z)) (i_bd (i_ix (zn_in hm (by decide)) (i_ix (zn_in (by omega) (by omega)) ?_))))
    rw [zn_nat (a := d) (by omega)]
    exact i_wI (i_t rfl (H _))
theorem dgM_v {m d k : Nat} : mI (dgM M v d m) v k = if d ≤ k ∧ k < d + (dgL m).length then zn ((dgL m).getD (k - d) 0) else mI M v k := by
  unfold dgM
  by_cases e : m < 10
  · have el : dgL m = [48 + m] := by unfold dgL; rw [if_pos e]
    rw [if_pos e, el, mI_eq]
    by_cases k1 : k = d
    · subst k1
      rw [if_pos rfl, if_pos ⟨Nat.le_refl _, Nat.lt_succ_self _⟩, Nat.sub_self, Nat.mod_eq_of_lt e]
      rfl
    · rw [if_neg k1, if_neg (fun z => k1 (by have z2 : k < d + 1 := z.2; omega))]
  · have el : dgL m = [48 + m / 10, 48 + m % 10] := by unfold dgL; rw [if_neg e]
    rw [if_neg e, el, mI_eq, mI_eq]
    by_cases k1 : k = d
    · subst k1
      rw [if_pos rfl, if_pos ⟨Nat.le_refl _, Nat.lt_add_of_pos_right (Nat.succ_pos _)⟩, Nat.sub_self]
      rfl
    · by_cases k2 : k = d + 1
      · subst k2
        rw [if_neg k1, if_pos rfl, if_pos ⟨by omega, Nat.lt_succ_self _⟩, show d + 1 - d = 1 by omega]
        rfl
      · rw [if_neg k1, if_neg k2, if_neg (fun z => k2 (by have z2 : k < d + 2 := z.2; omega))]
theorem dgM_o {m d x : Nat} (hx : x ≠ v) : mI (dgM M v d m) x = mI M x := by
  unfold dgM
  split
  · rw [mI_ne hx]
  · rw [mI_ne hx, mI_ne hx]
theorem dgM_J {m d x : Nat} : mJ (dgM M v d m) x = mJ M x := by
  unfold dgM
  split <;> rfl
/-- a number behind -/
theorem j_int (h : TB G M rl r a v cap L) {m : Nat} (hm : m < 100) (hL : L.length + (dgL m).length < 100000) (hc : cap < 400000) {post : gS → mS → Nat → Prop} (hB : uL (apC cap (L.length + (dgL m).length)) b) (hk : ∀ G' M' rl' v', Kt r G M rl G' M' rl' → TB G' M' rl' r a v' (apN cap (L.length + (dgL m).length)) (L ++ dgL m) → post G' M' a) : n_J4_append_bf812 b G M a (zn m) post := by
  unfold n_J4_append_bf812
  refine ⟨apC cap (L.length + (dgL m).length), ⟨Nat.le_trans (Nat.le_of_eq (Nat.zero_add _)) hB.1, Nat.le_trans (Nat.le_of_eq (Nat.zero_add _)) hB.2⟩, ?_⟩
  unfold n_J5_append_c97b9 nb_J5_append_c97b9_48
  refine i_bd (i_ca0 ⟨Nat.zero_le _, Nat.zero_le _⟩ (j_size hm (i_bd ?_)))
  rw [h.2.2.2.1, zn_add]
  refine ⟨apC cap (L.length + (dgL m).length), ⟨Nat.le_of_eq (Nat.zero_add _), Nat.le_of_eq (Nat.zero_add _)⟩, j_room h (by omega) hc ⟨Nat.le_refl _, Nat.le_refl _⟩ (fun G1 M1 rl1 v1 k1 h1 => ?_)⟩
  have hu : uL (uP (uP (0, 0) (0, 0)) (apC cap (L.length + (dgL m).length))) (apC cap (L.length + (dgL m).length)) := ⟨Nat.le_of_eq (Nat.zero_add _), Nat.le_of_eq (Nat.zero_add _)⟩
  have hcap : L.length + (dgL m).length ≤ apN cap (L.length + (dgL m).length) := by
    unfold apN
    split
    · assumption
    · split <;> omega
  have h1' := h1
  obtain ⟨⟨a1, a2⟩, ⟨w1, w2, w3, w4⟩, c0, l0, lc, c6, by0, tx⟩ := h1
  have nva : a ≠ v1 := rl_ne (rl := rl1) (by omega)
  refine i_ca0 hu ?_
  unfold n_J5_isLatin1_aae02 nb_J5_isLatin1_aae02_18
  refine i_f (by decide) (i_t c0 (i_ck (Or.inr rfl) (i_f (by decide) (i_rf w1 (i_ca0 hu (j_chars hm (by omega) (by rw [w4]; exact hcap) (by rw [w4]; exact c6) (fun x => i_wI ?_)))))))
  obtain ⟨t1, t2⟩ := tb_set (M' := wI (dgM M1 v1 L.length m) a 3 (zn (L.length + (dgL m).length))) h1' hcap (fun x n1 n2 => by rw [mI_ne n2, dgM_o n1]) (fun x => dgM_J) (fun k => by rw [mI_ne (fun e => nva e.symm), dgM_v]) (fun k => by rw [mI_eq, dgM_o nva]) (dgL_asc hm)
  exact hk _ _ rl1 v1 (Kt_tr k1 t2) t1
end IntApp2
