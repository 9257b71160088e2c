/-! the yard by hand and the class's: the same -/
section Same
variable {G : gS} {M : mS} {rl : Nat → Nat} {ad : Nat → Nat} {o : Nat} {S : sA} {P : aP} {q : Nat → Nat → Nat} {Y : aY} {T : Nat → Nat} {ea : Int32} {b u : uS} {post : gS → mS → Int32 → Prop}
theorem t_242 (hC : CL G M rl ad Y P T 0 ea) (h : SM G M rl o S P q Y) (hv : vY 100000 Y) {i : Nat} (hi : i < yd_n Y) {kb : uS → gS → mS → Int32 → Prop} (hk : kb u G M (zn (i + 1))) : nl_X10_isSame_242 b o (ad 0) kb post u G M (zn i) (0 : Int32) := by
  have h6 := hv.2.1
  refine ⟨fun n u1 G1 M1 v3 v5 => u1 = u ∧ G1 = G ∧ M1 = M ∧ v3 = zn i ∧ ∃ k, n + k = 9 ∧ v5 = zn k, 9, ⟨rfl, rfl, rfl, rfl, 0, rfl, rfl⟩, ?_⟩
  rintro n u1 G1 M1 v3 v5 ⟨rfl, rfl, rfl, rfl, k, hkn, rfl⟩
  unfold nb_X10_isSame_242
  by_cases e : k = 9
  · subst e
    exact i_t ((zn_le (a := 9) (b := 9) (by decide) (by decide)).mpr (by decide)) (i_bde (zn_one i) hk)
  · obtain ⟨hqa, hna⟩ := SM_a h hi
    have hAr := SM_ar h hi
    have hvi := (hv.2.2 i hi).1
    have x1 := hvi.2.1
    have x2 := hvi.2.2.1
    have hin : vp_in (zn i) (gN G1 (sg S 2)) := by rw [(SM_n h).2.2.1]; exact zn_in hi (by omega)
    have hd3 : (zn k : Int32) / (3 : Int32) = zn (k / 3) := zn_div (b := 3) (by omega) (by decide)
    have hm3 : zn k - zn k / (3 : Int32) * (3 : Int32) = zn (k % 3) := zn_mod (b := 3) (by omega) (by decide)
    have k3 : k % 3 < 3 := Nat.mod_lt _ (by decide)
    have hc : (an_x (yd_a Y i) + 62 + k % 3) % 64 < 64 := Nat.mod_lt _ (by decide)
    have hr : (an_y (yd_a Y i) + 62 + k / 3) % 64 < 64 := Nat.mod_lt _ (by decide)
    refine i_f (fun z => e (by have := (zn_le (a := 9) (b := k) (by decide) (by omega)).mp z; omega)) (i_rf (SM_f h (i := 2) (by decide)) (i_ix hin ?_))
    rw [zn_nat (by omega)]
    refine i_rf hqa (i_ix (by rw [hna]; exact vi_1 (by decide) (by decide)) (i_ck (by decide) (i_ck (by decide) (i_bd (i_rf (SM_f h (i := 2) (by decide)) (i_ix hin (i_rf hqa (i_ix (by rw [hna]; exact vi_2 (by decide) (by decide)) (i_ck (by decide) (i_ck (by decide) (i_bd ?_)))))))))))
    rw [nat_1, nat_2, hAr.2.1, hAr.2.2.1, hm3, hd3, show zn (an_x (yd_a Y i)) + (62 : Int32) = zn (an_x (yd_a Y i) + 62) from zn_add _ 62, show zn (an_y (yd_a Y i)) + (62 : Int32) = zn (an_y (yd_a Y i) + 62) from zn_add _ 62, zn_add, zn_add, zn_mod64 (by omega), zn_mod64 (by omega)]
    refine i_cls (p_stone hC.2.1 hC.2.2.2.2 hc hr) (i_rf (SM_f h (i := 1) (by decide)) (i_ix (by rw [(SM_n h).2.1]; exact zn_in hr (by decide)) ?_))
    rw [zn_nat (a := (an_y (yd_a Y i) + 62 + k / 3) % 64) (by omega), zn_nat (a := (an_x (yd_a Y i) + 62 + k % 3) % 64) (by omega)]
    refine i_rf (SM_y h hr).1 (i_ix (by rw [(SM_y h hr).2]; exact zn_in hc (by decide)) ?_)
    rw [h.2.2.1 _ hr _ hc]
    exact i_t rfl (i_bd ⟨n - 1, by omega, rfl, rfl, rfl, rfl, k + 1, by omega, zn_one k⟩)
theorem ans_row {A : aA} {M : mS} {x w : Nat} (h : aRow M x A) (hw : w < 6) : mI M x w = anAns A w := by
  obtain ⟨h0, h1, h2, h3, h4, h5⟩ := h
  match w, hw with
  | 0, _ => exact h0
  | 1, _ => exact h1
  | 2, _ => exact h2
  | 3, _ => exact h3
  | 4, _ => exact h4
  | 5, _ => exact h5
theorem t_155 (hb : SGb P (yd_n Y)) (hC : CL G M rl ad Y P T 0 ea) (h : SM G M rl o S P q Y) (hv : vY 100000 Y) (hu : uL u b) {i : Nat} (hi : i < yd_n Y) {kb : uS → gS → mS → Int32 → Prop} (hk : ∀ M', CL G M' rl ad Y P T 0 ea → SM G M' rl o S P q Y → kb u G M' (zn (i + 1))) : nl_X10_isSame_155 b o (ad 0) kb post u G M (zn i) (zn (anP (yd_a Y i))) (0 : Int32) := by
  have h6 := hv.2.1
  have hN : an_n (yd_a Y i) ≤ 100000 := (hv.2.2 i hi).2
  have h3p : 3 * anP (yd_a Y i) ≤ an_n (yd_a Y i) := per_n
  refine ⟨fun n u1 G1 M1 v3 v4 v5 => u1 = u ∧ G1 = G ∧ v3 = zn i ∧ v4 = zn (anP (yd_a Y i)) ∧ CL G M1 rl ad Y P T 0 ea ∧ SM G M1 rl o S P q Y ∧ ∃ w, n + w = 6 ∧ v5 = zn w, 6, ⟨rfl, rfl, rfl, rfl, hC, h, 0, rfl, rfl⟩, ?_⟩
  rintro n u1 G1 M1 v3 v4 v5 ⟨rfl, rfl, rfl, rfl, hC1, h1, w, hw, rfl⟩
  have hant : ∀ {M2 : mS} {w : Nat} {Q : mS → Int32 → Prop}, CL G1 M2 rl ad Y P T 0 ea → SM G1 M2 rl o S P q Y → w < 9 → (∀ M3, CL G1 M3 rl ad Y P T 0 ea → SM G1 M3 rl o S P q Y → Q M3 (anAns (yd_a Y i) w)) → p_cl (m_X9_ant G1 M2 (ad 0) (zn i) (zn w)) Q := fun {M2 w Q} c2 s2 hw9 H => i_cl (p_ant c2.1 c2.2.1 hv (by decide) c2.2.2.2.2 hi hw9) (fun M3 r hr => by
    obtain ⟨rfl, g1, g2⟩ := hr
    exact H M3 (CL_ca c2 g1) (SM_fr hb c2 s2 g2))
  unfold nb_X10_isSame_155
  by_cases e : w = 6
  · subst e
    refine i_t ((zn_le (a := 6) (b := 6) (by decide) (by decide)).mpr (by decide)) (hant (w := 6) hC1 h1 (by decide) (fun M2 c2 s2 => i_t rfl (hant (w := 7) c2 s2 (by decide) (fun M3 c3 s3 => ?_))))
    refine i_ca0 hu (s_ledE s3 hv hi (by omega) (i_t rfl (hant (w := 8) c3 s3 (by decide) (fun M4 c4 s4 => ?_))))
    exact i_ca0 hu (s_ledS s4 hv hi (by omega) (i_t rfl (t_242 c4 s4 hv hi (hk M4 c4 s4))))
  · have hw6 : w < 6 := by omega
    obtain ⟨hqa, hna⟩ := SM_a h1 hi
    refine i_f (fun z => e (by have := (zn_le (a := 6) (b := w) (by decide) (by omega)).mp z; omega)) (hant hC1 h1 (by omega) (fun M2 c2 s2 => i_rf (SM_f s2 (i := 2) (by decide)) (i_ix (by rw [(SM_n s2).2.2.1]; exact zn_in hi (by omega)) ?_)))
    rw [zn_nat (by omega), zn_nat (by omega)]
    refine i_rf hqa (i_ix (by rw [hna]; exact zn_in hw6 (by decide)) (i_t (ans_row (SM_ar s2 hi) hw6).symm (i_bd ⟨n - 1, by omega, rfl, rfl, rfl, rfl, c2, s2, w + 1, by omega, zn_one w⟩)))
theorem t_136 (hb : SGb P (yd_n Y)) (hC : CL G M rl ad Y P T 0 ea) (h : SM G M rl o S P q Y) (hv : vY 100000 Y) (hu : uL u b) (hk : ∀ G' M', post G' M' 1) : nl_X10_isSame_136 b o (ad 0) post u G M (0 : Int32) := by
  have h6 := hv.2.1
  refine ⟨fun n u1 G1 M1 v3 => u1 = u ∧ G1 = G ∧ CL G M1 rl ad Y P T 0 ea ∧ SM G M1 rl o S P q Y ∧ ∃ i, n + i = yd_n Y ∧ v3 = zn i, yd_n Y, ⟨rfl, rfl, hC, h, 0, rfl, rfl⟩, ?_⟩
  rintro n u1 G1 M1 v3 ⟨rfl, rfl, hC1, h1, i, hi, rfl⟩
  unfold nb_X10_isSame_136 nb_X10_isSame_348
  refine i_rf (SM_f h1 (i := 2) (by decide)) ?_
  rw [(SM_n h1).2.2.1]
  by_cases e : i = yd_n Y
  · subst e
    have hle : csum (yd_c Y) 6 ≤ 20480 := by
      have := totC_le hv.1 4096
      rw [tot_csum hv.1] at this
      omega
    refine i_t ((zn_le (by omega) (by omega)).mpr (Nat.le_refl _)) (i_cls (p_mean hC1.2.1 hv hC1.2.2.2.2) (i_ca0 hu (s_sum h1 hv.1 ?_)))
    rw [sm_csum hv.1]
    refine i_ck (nan_le hle) (i_t ?_ (i_ck (Or.inr rfl) (hk _ _)))
    rw [nan_eq hle]
    rfl
  · have hi2 : i < yd_n Y := by omega
    exact i_f (by rw [zn_le (by omega) (by omega)]; omega) (i_ca0 hu (s_period h1 hv hi2 (t_155 hb hC1 h1 hv hu hi2 (fun M2 c2 s2 => ⟨n - 1, by omega, rfl, rfl, c2, s2, i + 1, by omega, rfl⟩))))
theorem t_109 (hb : SGb P (yd_n Y)) (hC : CL G M rl ad Y P T 0 ea) (h : SM G M rl o S P q Y) (hv : vY 100000 Y) (hu : uL u b) {x : Nat} (hx : ∀ v, v < 6 → mI M x v = zn (cn (yd_c Y) v 4096)) (hn : gN G x = 6) (hk : ∀ G' M', post G' M' 1) : nl_X10_isSame_109 b o (ad 0) post u G M x (0 : Int32) := by
  refine ⟨fun n u1 G1 M1 v2 v3 => u1 = u ∧ G1 = G ∧ M1 = M ∧ v2 = x ∧ ∃ c, n + c = 6 ∧ v3 = zn c, 6, ⟨rfl, rfl, rfl, rfl, 0, rfl, rfl⟩, ?_⟩
  rintro n u1 G1 M1 v2 v3 ⟨rfl, rfl, rfl, rfl, c, hc, rfl⟩
  unfold nb_X10_isSame_109
  by_cases e : c = 6
  · subst e
    exact i_t ((zn_le (a := 6) (b := 6) (by decide) (by decide)).mpr (by decide)) (t_136 hb hC h hv hu hk)
  · have hc6 : c < 6 := by omega
    refine i_f (fun z => e (by have := (zn_le (a := 6) (b := c) (by decide) (by omega)).mp z; omega)) (i_cls (p_colour hC.2.1 hC.2.2.2.2 hc6) (i_ix (by rw [hn]; exact zn_in hc6 (by decide)) ?_))
    rw [zn_nat (by omega), hx c hc6]
    exact i_t rfl (i_bd ⟨n - 1, by omega, rfl, rfl, rfl, rfl, c + 1, by omega, zn_one c⟩)
theorem t_36 (hb : SGb P (yd_n Y)) (hC : CL G M rl ad Y P T 0 ea) (h : SM G M rl o S P q Y) (hv : vY 100000 Y) (hu : uL u b) {x : Nat} (hx : ∀ v, mI M x v = 0) (hn : gN G x = 6) (hxa : ∀ k, k < 66 → ad k ≠ x) (hxs : ¬ Si rl x) (hk : ∀ G' M', post G' M' 1) : nl_X10_isSame_36 b o (ad 0) post u G M x (0 : Int32) := by
  have h6 := hv.2.1
  refine ⟨fun n u1 G1 M1 v2 v3 => u1 = u ∧ G1 = G ∧ v2 = x ∧ CL G M1 rl ad Y P T 0 ea ∧ SM G M1 rl o S P q Y ∧ ∃ r, n + r = 64 ∧ v3 = zn r ∧ ∀ v, v < 6 → mI M1 x v = zn (cn (yd_c Y) v (64 * r)), 64, ⟨rfl, rfl, rfl, hC, h, 0, rfl, rfl, fun v _ => hx v⟩, ?_⟩
  rintro n u1 G1 M1 v2 v3 ⟨rfl, rfl, rfl, hC1, h1, r, hr, rfl, hx1⟩
  unfold nb_X10_isSame_36
  by_cases e : r = 64
  · subst e
    exact i_t ((zn_le (a := 64) (b := 64) (by decide) (by decide)).mpr (by decide)) (t_109 hb hC1 h1 hv hu hx1 hn hk)
  · have hr2 : r < 64 := by omega
    obtain ⟨hq, hny⟩ := SM_y h1 hr2
    refine i_f (fun z => e (by have := (zn_le (a := 64) (b := r) (by decide) (by omega)).mp z; omega)) (i_cls (p_row hC1.2.1 hC1.2.2.2.2 hr2) (i_ca0 hu (s_darkIn h1 hv.1 hr2 (i_t rfl (i_rf (SM_f h1 (i := 1) (by decide)) (i_ix (by rw [(SM_n h1).2.1]; exact zn_in hr2 (by decide)) ?_))))))
    rw [zn_nat (by omega)]
    refine i_rf hq (i_bd ?_)
    rw [hny]
    refine ⟨fun m u2 G2 M2 w2 w3 w4 w5 w6 => u2 = u1 ∧ G2 = G1 ∧ w2 = v2 ∧ w3 = zn r ∧ w4 = sry S r ∧ w5 = zn 64 ∧ CL G1 M2 rl ad Y P T 0 ea ∧ SM G1 M2 rl o S P q Y ∧ ∃ j, m + j = 64 ∧ w6 = zn j ∧ ∀ v, v < 6 → mI M2 v2 v = zn (cn (yd_c Y) v (64 * r + j)), 64, ⟨rfl, rfl, rfl, rfl, rfl, rfl, hC1, h1, 0, rfl, rfl, hx1⟩, ?_⟩
    rintro m u2 G2 M2 w2 w3 w4 w5 w6 ⟨rfl, rfl, rfl, rfl, rfl, rfl, hC2, h2, j, hj, rfl, hx2⟩
    unfold nb_X10_isSame_73
    by_cases e2 : j = 64
    · subst e2
      exact i_t ((zn_le (by decide) (by decide)).mpr (by decide)) (i_bd ⟨n - 1, by omega, rfl, rfl, rfl, hC2, h2, r + 1, by omega, zn_one r, hx2⟩)
    · have hj2 : j < 64 := by omega
      have hcv := hv.1 (64 * r + j)
      refine i_f (by rw [zn_le (by decide) (by omega)]; omega) (i_ix (by rw [hny]; exact zn_in hj2 (by decide)) (i_bd ?_))
      rw [zn_nat (by omega), h2.2.2.1 r hr2 j hj2]
      refine i_ix (by rw [hn]; exact zn_in hcv (by decide)) (i_ix (by rw [hn]; exact zn_in hcv (by decide)) ?_)
      rw [zn_nat (by omega), hx2 _ hcv]
      refine i_wI (i_bd ⟨m - 1, by omega, rfl, rfl, rfl, rfl, rfl, rfl, CL_w h6 hC2 hxa, SM_tw hb h2 hxs, j + 1, by omega, zn_one j, fun v hv6 => ?_⟩)
      rw [mI_eq]
      have hcn : cn (yd_c Y) v (64 * r + j + 1) = cn (yd_c Y) v (64 * r + j) + if yd_c Y (64 * r + j) = v then 1 else 0 := rfl
      rw [show 64 * r + (j + 1) = 64 * r + j + 1 by omega, hcn]
      by_cases e3 : v = yd_c Y (64 * r + j)
      · rw [if_pos e3, if_pos e3.symm, e3]
        exact zn_one _
      · rw [if_neg e3, if_neg (fun z => e3 z.symm)]
        exact hx2 v hv6
theorem s_isSame (hb : SGb P (yd_n Y)) (hC : CL G M rl ad Y P T 0 ea) (h : SM G M rl o S P q Y) (hv : vY 100000 Y) (hB : uL (12, 127) b) (hk : ∀ G' M', post G' M' 1) : n_X10_isSame b G M o (ad 0) post := by
  have h6 := hv.2.1
  unfold n_X10_isSame
  refine ⟨fun n u1 G1 M1 v2 => ∃ w rl1, n + w = 11 ∧ v2 = zn w ∧ u1 = (w, 11 * w) ∧ CL G1 M1 rl1 ad Y P T 0 ea ∧ SM G1 M1 rl1 o S P q Y, 11, ⟨0, rl, rfl, rfl, rfl, hC, h⟩, ?_⟩
  rintro n u1 G1 M1 v2 ⟨w, rl1, hw, rfl, rfl, hC1, h1⟩
  obtain ⟨hB1, hB2⟩ := hB
  simp only at hB1 hB2
  unfold nb_X10_isSame_2
  by_cases e : w = 11
  · subst e
    refine i_t ((zn_le (a := 11) (b := 11) (by decide) (by decide)).mpr (by decide)) (i_na (N := 6) rfl (by decide) ⟨by show 11 + 1 ≤ b.1; omega, by show 11 * 11 + 6 ≤ b.2; omega⟩ (fun x hx => ?_))
    have h2 := SM_nw (r := 0) (k := 12) (n := 6) hb h1 hx
    have nx : ¬ Si (rU rl1 x 0) x := fun z => by unfold Si at z; rw [rU_eq] at z; omega
    exact t_36 hb (CL_kp h6 hC1 (Kp_nw hx)) h2 hv ⟨by show 11 + 1 ≤ b.1; omega, by show 11 * 11 + 6 ≤ b.2; omega⟩ (fun v => wZ_eq) gN_nw (fun k hk2 => mem_ne (hC1.2.2.1 k hk2).1 hx) nx hk
  · have hw2 : w < 11 := by omega
    refine i_f (fun z => e (by have := (zn_le (a := 11) (b := w) (by decide) (by omega)).mp z; omega)) (i_cls (c_count hC1.2.1 hv hC1.2.2.2.2 hw2) ⟨(1, 11), ⟨by show w + 1 ≤ b.1; omega, by show 11 * w + 11 ≤ b.2; omega⟩, s_counted hb h1 hv hw2 ⟨Nat.le_refl _, Nat.le_refl _⟩ (fun G2 M2 rl2 kp h2 => ?_)⟩)
    rw [cntV_S]
    refine i_t rfl (i_bd ⟨n - 1, by omega, w + 1, rl2, by omega, zn_one w, ?_, CL_kp h6 hC1 kp, h2⟩)
    show (w + 1, 11 * w + 11) = (w + 1, 11 * (w + 1))
    rw [show 11 * w + 11 = 11 * (w + 1) by omega]
end Same
