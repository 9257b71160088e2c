/-! the loop that tells -/
section Tell2
variable {G G' : gS} {M M' : mS} {rl rl' : Nat → Nat} {ad : Nat → Nat} {o : Nat} {S : sA} {P : aP} {q : Nat → Nat → Nat} {Y : aY} {T : Nat → Nat} {ea : Int32} {u : uS} {tq sq n N : Nat} {tr : Nat → Nat} {D : va_G} {post : gS → mS → Int32 → Prop}
theorem TL_cg (hT : LT G rl tq sq tr (yd_n Y)) {i k : Nat} (hi : i < yd_n Y) (h : TL M sq tr Y i k) (hI : ∀ x, 10000 ≤ rl x → mI M' x = mI M x) : TL M' sq tr Y i k := by
  obtain ⟨_, ⟨b1, b2, b3⟩, c⟩ := hT
  refine ⟨fun j hj => ?_, fun w hw => ?_⟩
  · obtain ⟨_, c2, c3, _⟩ := c j (by omega)
    obtain ⟨h1, h2⟩ := h.1 j hj
    exact ⟨fun w hw => by rw [hI _ (by omega)]; exact h1 w hw, by rw [hI _ (by omega)]; exact h2⟩
  · obtain ⟨_, c2, c3, _⟩ := c i hi
    rw [hI _ (by omega)]
    exact h.2 w hw
theorem l_267 (hb : SGb P (yd_n Y)) (hv : vY 100000 Y) (hvN : vN 100000 Y) (hC : CL G M rl ad Y P T 0 ea) (hM : SM G M rl o S P q Y) (hT : LT G rl tq sq tr (yd_n Y)) {i : Nat} (hi : i < yd_n Y) (hL : TL M sq tr Y i 0) {kb45 : uS → gS → mS → Nat → Nat → Int32 → Int32 → Prop} {kb : uS → gS → mS → Nat → Nat → Int32 → Int32 → Int64 → Int32 → Nat → Nat → Int32 → Int32 → Prop} {v5 v11 : Int32} {v7 : Int64} (hk : ∀ M', CL G M' rl ad Y P T 0 ea → SM G M' rl o S P q Y → TL M' sq tr Y (i + 1) 0 → kb u G M' o (ad 0) (zn (yd_n Y)) v5 v7 v11 tq sq (zn (wkA (yd_a Y) (i + 1))) (zn (i + 1))) : nl_L_law_267 D kb45 kb post u G M o (ad 0) (zn (yd_n Y)) v5 v7 v11 tq sq (zn (wkA (yd_a Y) i)) (zn i) (0 : Int32) := by
  have hn6 := hv.2.1
  obtain ⟨t1, t2, t3, t4⟩ := hT.2.2 i hi
  obtain ⟨s1, s2, s3⟩ := hT.2.1
  have ntr : ∀ k, k < 66 → ad k ≠ tr i := fun k hk2 => rl_ne (rl := rl) (by have := (hC.2.2.1 k hk2).2; omega)
  have nsq : ∀ k, k < 66 → ad k ≠ sq := fun k hk2 => rl_ne (rl := rl) (by have := (hC.2.2.1 k hk2).2; omega)
  refine ⟨fun m u2 G2 M2 w2 w3 w4 w5 w7 w11 w12 w13 w14 w15 w16 => u2 = u ∧ G2 = G ∧ w2 = o ∧ w3 = ad 0 ∧ w4 = zn (yd_n Y) ∧ w5 = v5 ∧ w7 = v7 ∧ w11 = v11 ∧ w12 = tq ∧ w13 = sq ∧ w14 = zn (wkA (yd_a Y) i) ∧ w15 = zn i ∧ CL G M2 rl ad Y P T 0 ea ∧ SM G M2 rl o S P q Y ∧ ∃ k, m + k = 9 ∧ w16 = zn k ∧ TL M2 sq tr Y i k, 9, ⟨rfl, rfl, rfl, rfl, rfl, rfl, rfl, rfl, rfl, rfl, rfl, rfl, hC, hM, 0, rfl, rfl, hL⟩, ?_⟩
  rintro m u2 G2 M2 w2 w3 w4 w5 w7 w11 w12 w13 w14 w15 w16 ⟨rfl, rfl, rfl, rfl, rfl, rfl, rfl, rfl, rfl, rfl, rfl, rfl, hC2, hM2, k, hk9, rfl, hL2⟩
  unfold nb_L_law_267
  by_cases e : k = 9
  · subst e
    have hvi := (hv.2.2 i hi).1
    have p1 : anP (yd_a Y i) ≤ 120 := anP_le
    have hr := hL2.2
    have xns : ∀ {x : Nat}, 10000 ≤ rl x → ¬ Si rl x := fun hx => ns_big hx
    rw [nat_1, nat_2, nat_4, n6_]
    refine i_t ((zn_le (a := 9) (b := 9) (by decide) (by decide)).mpr (by decide)) (i_tl hT hn6 hi (w := 1) (by decide) rfl (i_tl hT hn6 hi (w := 2) (by decide) rfl ?_))
    rw [hr 1 (by decide), hr 2 (by decide)]
    refine i_cls (p_stone hC2.2.1 hC2.2.2.2.2 hvi.2.1 hvi.2.2.1) (i_ix (by rw [s3]; exact zn_in hi (by omega)) (i_wI ?_))
    have nst : tr i ≠ w13 := rl_ne (rl := rl) (by omega)
    have eM : ∀ w, mI (wI M2 w13 (Int32.toNatClampNeg (zn i)) (zn (yd_c Y (64 * an_y (yd_a Y i) + an_x (yd_a Y i))))) (tr i) w = mI M2 (tr i) w := fun w => by rw [mI_ne nst]
    have hC3 := CL_w (j := Int32.toNatClampNeg (zn i)) (v := zn (yd_c Y (64 * an_y (yd_a Y i) + an_x (yd_a Y i)))) hn6 hC2 nsq
    have hM3 := SM_tw (j := Int32.toNatClampNeg (zn i)) (v := zn (yd_c Y (64 * an_y (yd_a Y i) + an_x (yd_a Y i)))) hb hM2 (x := w13) (xns (by omega))
    have hL3 : ∀ w, w < 9 → mI (wI M2 w13 (Int32.toNatClampNeg (zn i)) (zn (yd_c Y (64 * an_y (yd_a Y i) + an_x (yd_a Y i))))) (tr i) w = anAns (yd_a Y i) w := fun w hw => by rw [eM]; exact hr w hw
    have hTL : TL (wI M2 w13 (Int32.toNatClampNeg (zn i)) (zn (yd_c Y (64 * an_y (yd_a Y i) + an_x (yd_a Y i))))) w13 tr Y (i + 1) 0 := by
      refine ⟨fun j hj => ?_, fun w hw => absurd hw (Nat.not_lt_zero w)⟩
      by_cases ej : j = i
      · subst ej
        exact ⟨hL3, by rw [mI_eq, zn_nat (by omega), if_pos rfl]; rfl⟩
      · obtain ⟨h1, h2⟩ := hL2.1 j (by omega)
        have ntj : tr j ≠ w13 := rl_ne (rl := rl) (by have := (hT.2.2 j (by omega)).2.2.1; omega)
        exact ⟨fun w hw => by rw [mI_ne ntj]; exact h1 w hw, by rw [mI_eq, zn_nat (by omega), if_neg ej]; exact h2⟩
    generalize wI M2 w13 (Int32.toNatClampNeg (zn i)) (zn (yd_c Y (64 * an_y (yd_a Y i) + an_x (yd_a Y i)))) = M3 at hC3 hM3 hL3 hTL ⊢
    refine i_tl hT hn6 hi (w := 4) (by decide) rfl (i_bd (i_tl hT hn6 hi (w := 6) (by decide) rfl ?_))
    rw [hL3 4 (by decide), hL3 6 (by decide)]
    have ewk : zn (wkA (yd_a Y) i) + anAns (yd_a Y i) 4 = zn (wkA (yd_a Y) (i + 1)) := zn_add _ _
    rw [ewk]
    have fin : ∀ s0 : Int32, ((s0 = 0 ∧ anP (yd_a Y i) = 0) ∨ (s0 = 1 ∧ anP (yd_a Y i) ≠ 0)) → nb_L_law_371 D kb45 kb post u2 G2 M3 w2 (ad 0) (zn (yd_n Y)) w5 w7 w11 w12 w13 (zn (wkA (yd_a Y) (i + 1))) (zn i) s0 := fun s0 hs => l_371 hvN hn6 hT hi hL3 hs (hk M3 hC3 hM3 hTL)
    refine i_f (show ¬ zn (anP (yd_a Y i)) < 0 from zn_nn (by omega)) (i_tl hT hn6 hi (w := 6) (by decide) rfl ?_)
    rw [hL3 6 (by decide)]
    refine i_f (show ¬ zn 120 < zn (anP (yd_a Y i)) by rw [zn_lt (by decide) (by omega)]; omega) (i_tl hT hn6 hi (w := 6) (by decide) rfl ?_)
    rw [hL3 6 (by decide)]
    refine i_if (fun z => ?_) (fun z => ?_)
    · have z2 := (zn_le (a := anP (yd_a Y i)) (b := 0) (by omega) (by decide)).mp z
      exact fin 0 (Or.inl ⟨rfl, by omega⟩)
    · exact fin 1 (Or.inr ⟨rfl, fun z2 => z (show zn (anP (yd_a Y i)) ≤ zn 0 by rw [z2]; exact Int32.le_refl _)⟩)
  · have hk2 : k < 9 := by omega
    refine i_f (fun z => e (by have := (zn_le (a := 9) (b := k) (by decide) (by omega)).mp z; omega)) (i_ix (by rw [hT.1.2.2]; exact zn_in hi (by omega)) ?_)
    rw [zn_nat (a := i) (by omega), zn_nat (a := k) (by omega)]
    refine i_rf t1 (i_cl (p_ant hC2.1 hC2.2.1 hv (by decide) hC2.2.2.2.2 hi hk2) (fun M3 r hr => ?_))
    obtain ⟨rfl, g1, g2⟩ := hr
    have hC3 := CL_ca hC2 g1
    have hM3 := SM_fr hb hC2 hM2 g2
    have hL3 := TL_cg (M' := M3) hT hi hL2 (fun x hx => Fr_r hC2 g2 (by omega))
    refine i_ix (by rw [t4]; exact zn_in hk2 (by decide)) (i_wI (i_bd ⟨m - 1, by omega, rfl, rfl, rfl, rfl, rfl, rfl, rfl, rfl, rfl, rfl, rfl, rfl, CL_w hn6 hC3 ntr, SM_tw hb hM3 (ns_big (by omega)), k + 1, by omega, zn_one k, ?_⟩))
    refine ⟨fun j hj => ?_, fun w hw => ?_⟩
    · obtain ⟨h1, h2⟩ := hL3.1 j hj
      have ntj : tr j ≠ tr i := rl_ne (rl := rl) (by have := (hT.2.2 j (by omega)).2.2.1; omega)
      have nsi : w13 ≠ tr i := rl_ne (rl := rl) (by omega)
      exact ⟨fun w hw => by rw [mI_ne ntj]; exact h1 w hw, by rw [mI_ne nsi]; exact h2⟩
    · rw [mI_eq]
      by_cases ew : w = k
      · rw [if_pos ew, ew]
      · rw [if_neg ew]
        exact hL3.2 w (by omega)
end Tell2
