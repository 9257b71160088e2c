/-! the loop over stones that are painted -/
section Paints
variable {D : va_G} {G G1 : gS} {M : mS} {rl : Nat → Nat} {o a v cap c d x y n : Nat} {S : sA} {L : List Nat} {b u : uS} {post : gS → mS → Nat → Prop}
theorem wrap12 {m : Nat} (hm : m < 12) : ((28 : Int32) + zn m) - ((28 : Int32) + zn m) / (64 : Int32) * (64 : Int32) = zn ((28 + m) % 64) := by
  rw [show (28 : Int32) + zn m = zn (28 + m) from zn_add 28 _]
  exact zn_mod64 (by omega)
theorem zn_dn {k : Nat} : zn (k + 1) + (-1 : Int32) = zn k := by
  rw [zn_m1 (by omega), show k + 1 - 1 = k by omega]
set_option maxRecDepth 20000 in
theorem p_401 (hX : xL D ≤ 260) (hbb : 1000 ≤ b.1 ∧ 200000 ≤ b.2) (hM : SM G M rl o S (pzD D (zR D) 0) (zQ D) (yzD D (zN D) 0)) (hT : TB G M rl 20000 a v cap (txA D (zN D))) (hU : UB 210 4299 u cap (txA D (zN D)).length) (hk : ∀ u' G' M' rl' S' v' cap', SM G' M' rl' o S' (pzD D (zR D) 0) (zQ D) (yzD D (zN D) (zPn D)) → TB G' M' rl' 20000 a v' cap' (txP D (zPn D)) → UB 274 4299 u' cap' (txP D (zPn D)).length → nl_L_list_538 D b a post u' G' M' o (zn (zN D)) (zn (zOn D))) : nl_L_list_401 D b a post u G M o (zn (zN D)) (zn (zPn D)) := by
  have hN5 := zN_b (D := D)
  have hR3 := zR_b (D := D)
  have hP9 := zPn_b (D := D)
  refine ⟨fun m u1 G1 M1 w2 w4 w5 => o = w2 ∧ zn (zN D) = w4 ∧ ∃ j rl1 S1 v1 cap1, m + j = zPn D ∧ zn m = w5 ∧ SM G1 M1 rl1 o S1 (pzD D (zR D) 0) (zQ D) (yzD D (zN D) j) ∧ TB G1 M1 rl1 20000 a v1 cap1 (txP D j) ∧ UB (210 + 8 * j) 4299 u1 cap1 (txP D j).length, zPn D, ⟨rfl, rfl, 0, rl, S, v, cap, Nat.add_zero _, rfl, hM, hT, hU⟩, ?_⟩
  rintro m u1 G1 M1 w2 w4 w5 ⟨rfl, rfl, j, rl1, S1, v1, cap1, hm, rfl, hM1, hT1, hU1⟩
  have hb : ∀ j, SGb (pzD D (zR D) 0) (yd_n (yzD D (zN D) j)) := fun j => SGbz (by omega) (by show zN D ≤ 5; omega) (Nat.zero_le _)
  have hu1 : uL u1 b := UB_le hU1 (by omega) (by omega)
  unfold nb_L_list_401
  by_cases e : m = 0
  · subst e
    have ej : j = zPn D := by omega
    rw [ej] at hM1 hT1 hU1
    refine i_t ((zn_le (a := 0) (b := 0) (by decide) (by decide)).mpr (Nat.le_refl _)) (i_ca0 hu1 (s_cellD hX (k := 12) rfl (by decide) (i_ca0 hu1 (s_below (n := 6) rfl (by decide) (by decide) ?_))))
    exact hk _ _ _ rl1 S1 v1 cap1 hM1 hT1 (UB_mono hU1 (by omega) (by omega))
  · obtain ⟨k, rfl⟩ : ∃ k, m = k + 1 := ⟨m - 1, by omega⟩
    have ek : zPn D - j = k + 1 := by omega
    have c12 : bwN (zPx D (k + 1) >>> ((2 : Int32) &&& 31)) % 12 < 12 := Nat.mod_lt _ (by decide)
    have r12 : bwN (zPx D (k + 1) >>> ((5 : Int32) &&& 31)) % 12 < 12 := Nat.mod_lt _ (by decide)
    have hc0 := zPc_b (D := D) (k := k + 1)
    have hr0 := zPr_b (D := D) (k := k + 1)
    have hv0 := zPv_b (D := D) (k := k + 1)
    refine i_f (fun z => by have := (zn_le (a := k + 1) (b := 0) (by omega) (by decide)).mp z; omega) (i_ca0 hu1 (s_cellD hX (k := 11) rfl (by decide) (i_bd (i_ca0 hu1 (s_below (n := 12) rfl (by decide) (by decide) (i_ck (by decide) (i_bde (e' := zn (zPc D (k + 1))) (wrap12 c12) (i_ca0 hu1 (s_below (n := 12) rfl (by decide) (by decide) (i_ck (by decide) (i_bde (e' := zn (zPr D (k + 1))) (wrap12 r12) ?_)))))))))))
    obtain ⟨y1, y2⟩ := SM_y hM1 hr0
    refine i_rf (SM_f hM1 (i := 1) (by decide)) (i_ix (by rw [(SM_n hM1).2.1]; exact zn_in hr0 (by decide)) (i_rf (a := sry S1 (zPr D (k + 1))) (by rw [zn_nat (by omega)]; exact y1) (i_ca0 hu1 (s_below (n := 6) rfl (by decide) (by decide) (i_ix (by rw [y2]; exact zn_in hc0 (by decide)) ?_)))))
    rw [show (zn (zPc D (k + 1))).toNatClampNeg = zPc D (k + 1) from zn_nat (by omega)]
    have hM2 := SM_cell (v := zPv D (k + 1)) (hb j) hM1 hr0 hc0
    have hY : aSet (64 * zPr D (k + 1) + zPc D (k + 1)) (zPv D (k + 1)) (yzD D (zN D) j) = yzD D (zN D) (j + 1) := by
      show _ = (cSet (zC D j) (64 * zPr D (zPn D - j) + zPc D (zPn D - j)) (zPv D (zPn D - j)), zN D, zA D, 0, 0, 0, 0)
      rw [ek]
      rfl
    rw [hY] at hM2
    have hsy := hM1.1.2.2.2.1 (zPr D (k + 1)) hr0
    have hrr : rl1 (sry S1 (zPr D (k + 1))) = 2000 + zPr D (k + 1) := hsy.2.2.2.1
    have hT2 := TB_w (j := zPc D (k + 1)) (w := zn (zPv D (k + 1))) hT1 (x := sry S1 (zPr D (k + 1))) (by omega) (by omega)
    have hst : KS 20000 (fun G M rl => SM G M rl o S1 (pzD D (zR D) 0) (zQ D) (yzD D (zN D) (j + 1))) := KS_SM (hb (j + 1)) (by decide)
    refine i_wI (a_lit hst hM2 hT2 hU1 (n := 28) rfl (by decide) (by decide) ⟨by omega, by omega⟩ (by omega) (fun u3 G3 M3 rl3 v3 cap3 I3 T3 U3 => ?_))
    refine a_int hst I3 T3 U3 (m := zPc D (k + 1)) rfl (by omega) ⟨by omega, by omega⟩ (by omega) (fun u4 G4 M4 rl4 v4 cap4 I4 T4 U4 => ?_)
    refine a_lit hst I4 T4 U4 (n := 21) rfl (by decide) (by decide) ⟨by omega, by omega⟩ (by omega) (fun u5 G5 M5 rl5 v5 cap5 I5 T5 U5 => ?_)
    refine a_int hst I5 T5 U5 (m := zPr D (k + 1)) rfl (by omega) ⟨by omega, by omega⟩ (by omega) (fun u6 G6 M6 rl6 v6 cap6 I6 T6 U6 => ?_)
    refine a_lit hst I6 T6 U6 (n := 21) rfl (by decide) (by decide) ⟨by omega, by omega⟩ (by omega) (fun u7 G7 M7 rl7 v7 cap7 I7 T7 U7 => ?_)
    obtain ⟨z1, z2⟩ := SM_y I7 hr0
    have hval : mI M7 (sry S1 (zPr D (k + 1))) (zPc D (k + 1)) = zn (zPv D (k + 1)) := by
      rw [I7.2.2.1 _ hr0 _ hc0]
      show zn (cSet (zC D j) (64 * zPr D (zPn D - j) + zPc D (zPn D - j)) (zPv D (zPn D - j)) (64 * zPr D (k + 1) + zPc D (k + 1))) = _
      rw [ek, cSet_at, if_pos rfl]
    refine i_rf (SM_f I7 (i := 1) (by decide)) (i_ix (by rw [(SM_n I7).2.1]; exact zn_in hr0 (by decide)) (i_rf (a := sry S1 (zPr D (k + 1))) (by rw [zn_nat (by omega)]; exact z1) (i_ix (by rw [z2]; exact zn_in hc0 (by decide)) ?_)))
    refine a_int hst I7 T7 U7 (m := zPv D (k + 1)) hval (by omega) ⟨by omega, by omega⟩ (by omega) (fun u8 G8 M8 rl8 v8 cap8 I8 T8 U8 => ?_)
    refine a_lit hst I8 T8 U8 (n := 22) rfl (by decide) (by decide) ⟨by omega, by omega⟩ (by omega) (fun u9 G9 M9 rl9 v9 cap9 I9 T9 U9 => ?_)
    have hL : txP1 D (k + 1) (txP D j) = txP D (j + 1) := by
      show _ = txP1 D (zPn D - j) (txP D j)
      rw [ek]
    have T9' : TB G9 M9 rl9 20000 a v9 cap9 (txP1 D (k + 1) (txP D j)) := T9
    have U9' : UB _ 4299 u9 cap9 (txP1 D (k + 1) (txP D j)).length := U9
    rw [hL] at T9' U9'
    exact i_bde zn_dn ⟨k, by omega, rfl, rfl, j + 1, rl9, S1, v9, cap9, by omega, rfl, I9, T9', UB_mono U9' (by omega) (Nat.le_refl _)⟩
end Paints
