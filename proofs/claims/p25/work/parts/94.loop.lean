/-! the law's loop over ants, after a step; the washing at its end -/
theorem step_ant {P : aP} {Y : aY} (hP : vP (yd_n Y) P) (hH : vH Y) (hvY : vY 100000 Y) {i : Nat} (hi : i < yd_n Y) : ∃ st : Nat, (st = 0 ∨ st = 1) ∧ an_r (yd_a (aStep P Y) i) = an_r (yd_a Y i) ∧ an_t (yd_a (aStep P Y) i) = an_t (yd_a Y i) + st ∧ ((an_x (yd_a (aStep P Y) i) + 64 - an_x (yd_a Y i)) % 64 + 64 * ((an_y (yd_a (aStep P Y) i) + 64 - an_y (yd_a Y i)) % 64) = if st = 0 then 0 else wyN (an_s (yd_a (aStep P Y) i))) ∧ (yd_k (aStep P Y) = yd_k Y → st = an_w (yd_a Y i) ∧ (st = 1 → (anP (yd_a (aStep P Y) i) = 1 → an_s (yd_a (aStep P Y) i) = an_s (yd_a Y i)) ∧ (alB Y i (yd_n Y) = true → an_s (yd_a (aStep P Y) i) = (an_s (yd_a Y i) + tb (pg_t P (an_r (yd_a Y i)) (yd_c Y (pl_ (yd_a Y i)) % pg_z P (an_r (yd_a Y i))))) % 4 ∧ yd_c (aStep P Y) (pl_ (yd_a Y i)) = (yd_c Y (pl_ (yd_a Y i)) + 1) % pg_z P (an_r (yd_a Y i))))) := by
  obtain ⟨A0, ⟨r0, x0, y0, t0⟩, hid, hcase⟩ := step_one hP hH hi
  have hvi := (hvY.2.2 i hi).1
  have hx := hvi.2.1
  have hy := hvi.2.2.1
  have hw := hvi.2.2.2.2.1
  rcases hcase with ⟨w0, e1⟩ | ⟨w0, c, e1, hcol⟩
  · refine ⟨0, Or.inl rfl, by rw [e1, r0], by rw [e1, t0]; rfl, ?_, fun z => ⟨?_, fun z2 => absurd z2 (by decide)⟩⟩
    · rw [e1, x0, y0, if_pos rfl]
      omega
    · rw [← hid z, w0]
  · refine ⟨1, Or.inr rfl, by rw [e1]; exact r0, by rw [e1]; show an_t A0 + 1 = _; rw [t0], ?_, fun z => ⟨?_, fun _ => ⟨?_, fun al => ?_⟩⟩⟩
    · rw [if_neg (by decide), e1]
      have hs : an_s (anGo (pg_t P (an_r A0) (c % pg_z P (an_r A0))) A0) < 4 := Nat.mod_lt _ (by decide)
      have ex : an_x (anGo (pg_t P (an_r A0) (c % pg_z P (an_r A0))) A0) = nx (an_x A0) (an_s (anGo (pg_t P (an_r A0) (c % pg_z P (an_r A0))) A0)) := rfl
      have ey : an_y (anGo (pg_t P (an_r A0) (c % pg_z P (an_r A0))) A0) = ny (an_y A0) (an_s (anGo (pg_t P (an_r A0) (c % pg_z P (an_r A0))) A0)) := rfl
      rw [ex, ey, x0, y0]
      exact far_t hx hy hs
    · have h1 := hid z
      rw [h1] at w0
      omega
    · have h1 := hid z
      subst h1
      intro hp
      rw [e1] at hp ⊢
      exact one_dir (hH i hi) hp
    · have h1 := hid z
      obtain ⟨c1, c2⟩ := hcol z al
      subst h1
      subst c1
      exact ⟨by rw [e1]; rfl, c2⟩
theorem wy_m : ∀ s : Nat, s < 4 → (if s = 3 then (63 : Int32) else if s = 2 then 64 else if s = 1 then 1 else if s = 0 then 4032 else 0) = zn (wyN s) := by decide
section AntsLoop
variable {G G' : gS} {M M' : mS} {rl rl' : Nat → Nat} {ad : Nat → Nat} {o : Nat} {S : sA} {P : aP} {q : Nat → Nat → Nat} {Y : aY} {T : Nat → Nat} {ea : Int32} {u : uS} {tq sq n N : Nat} {tr : Nat → Nat} {D : va_G} {post : gS → mS → Int32 → Prop}
theorem l_ant (hb : SGb P (yd_n Y)) (hv1 : vY 100000 (aStep P Y)) (hvY : vY 100000 Y) (hP : vP (yd_n Y) P) (hr : vR P Y) (hH : vH Y) (ht : yd_t Y < 100000) (h : B3 G M rl ad o S P q (aStep P Y) T ea tq sq tr Y) {i : Nat} (hi : i < yd_n Y) (htt : an_t (yd_a Y i) < 1000000000) {kb45 : uS → gS → mS → Nat → Nat → Int32 → Int32 → Prop} {back : uS → gS → mS → Nat → Nat → Int32 → Int32 → Nat → Nat → Int32 → Int32 → Prop} {v5 v20 : Int32} (h20 : v20 = 0 → yd_k (aStep P Y) = yd_k Y) (hB : uL (uP (uP u (1, 4)) (1, 4)) bL) (hk : ∀ G' M' rl', B3 G' M' rl' ad o S P q (aStep P Y) T ea tq sq tr Y → back (uP (uP u (1, 4)) (1, 4)) G' M' o (ad 0) (zn (yd_n Y)) v5 tq sq v20 (zn (i + 1))) : nb_L_law_625 D kb45 post back u G M o (ad 0) (zn (yd_n Y)) v5 tq sq v20 (zn i) := by
  have en : yd_n (aStep P Y) = yd_n Y := aStep_n
  have h6 : yd_n (aStep P Y) ≤ 6 := hv1.2.1
  have hn6 : yd_n Y ≤ 6 := hvY.2.1
  have hb1 : SGb P (yd_n (aStep P Y)) := by rw [en]; exact hb
  have hP1 : vP (yd_n (aStep P Y)) P := by rw [en]; exact hP
  have hi1 : i < yd_n (aStep P Y) := by rw [en]; exact hi
  obtain ⟨st, hst01, fr, ft, ff, fk⟩ := step_ant hP hH hvY hi
  have hvi := (hvY.2.2 i hi).1
  have hv1i := (hv1.2.2 i hi1).1
  have tv : ∀ {M2 : mS} {G2 : gS} {r2 : Nat → Nat}, B3 G2 M2 r2 ad o S P q (aStep P Y) T ea tq sq tr Y → ∀ {w : Nat}, w < 9 → mI M2 (tr i) w = anAns (yd_a Y i) w := fun {M2 G2 r2} h2 {w} hw => (h2.2.2.2 i hi).1 w hw
  -- behind the distance
  have k774 : ∀ {G2 : gS} {M2 : mS} {r2 : Nat → Nat}, B3 G2 M2 r2 ad o S P q (aStep P Y) T ea tq sq tr Y → nb_L_law_774 D kb45 back post (uP u (1, 4)) G2 M2 o (ad 0) (zn (yd_n Y)) v5 tq sq v20 (zn i) (zn st) := by
    intro G2 M2 r2 h2
    unfold nb_L_law_774
    rw [nat_0]
    refine B3_ant hb1 h2 hv1 hi1 (w := 0) (by decide) rfl (fun M3 h3 => i_tl h3.2.2.1 hn6 hi (w := 0) (by decide) rfl ?_)
    rw [tv h3 (w := 0) (by decide)]
    have go : ∀ a0 : Bool, (a0 = true → v20 = 0 ∧ st = 1) → nb_L_law_809 D kb45 back post (uP u (1, 4)) G2 M3 o (ad 0) (zn (yd_n Y)) v5 tq sq v20 (zn i) (zn st) (bI a0) := by
      intro a0 ha
      refine l_814 hb1 h6 en hv1 hvY hP1 hr h3 hi hB (fun z1 z2 => ?_) (fun z1 z2 => ?_) hk
      · have z3 : st = 1 := (zn_inj (a := st) (b := 1) (by omega) (by decide)).mp z2
        exact ((fk (h20 z1)).2 z3).1
      · obtain ⟨z3, z4⟩ := ha z1
        exact ((fk (h20 z3)).2 z4).2 z2
    have g808 : nb_L_law_808 D kb45 back post (uP u (1, 4)) G2 M3 o (ad 0) (zn (yd_n Y)) v5 tq sq v20 (zn i) (zn st) := go false (fun z => absurd z (by decide))
    refine i_t (show zn (an_r (yd_a (aStep P Y) i)) = zn (an_r (yd_a Y i)) by rw [fr]) (i_if (fun z1 => i_if (fun z2 => ?_) (fun _ => g808)) (fun _ => g808))
    exact go true (fun _ => ⟨z1, (zn_inj (a := st) (b := 1) (by omega) (by decide)).mp z2⟩)
  have k754 : ∀ {G2 : gS} {M2 : mS} {r2 : Nat → Nat} {s0 s1 : Int32}, s0 = s1 → B3 G2 M2 r2 ad o S P q (aStep P Y) T ea tq sq tr Y → nb_L_law_754 D kb45 back post (uP u (1, 4)) G2 M2 o (ad 0) (zn (yd_n Y)) v5 tq sq v20 (zn i) (zn st) s0 s1 := by
    intro G2 M2 r2 s0 s1 es h2
    unfold nb_L_law_754
    rw [nat_4]
    refine i_t es (i_if (fun z => i_tl h2.2.2.1 hn6 hi (w := 4) (by decide) rfl ?_) (fun _ => k774 h2))
    rw [tv h2 (w := 4) (by decide)]
    exact i_t (show zn st = zn (an_w (yd_a Y i)) by rw [(fk (h20 z)).1]) (k774 h2)
  unfold nb_L_law_625
  refine i_f (by rw [zn_le (by omega) (by omega)]; omega) ?_
  rw [nat_0, nat_1, nat_2, nat_3, nat_5]
  refine B3_ant hb1 h hv1 hi1 (w := 1) (by decide) rfl (fun M2 h2 => i_tl h2.2.2.1 hn6 hi (w := 1) (by decide) rfl (i_ck (by decide) ?_))
  refine B3_ant hb1 h2 hv1 hi1 (w := 2) (by decide) rfl (fun M3 h3 => i_tl h3.2.2.1 hn6 hi (w := 2) (by decide) rfl (i_ck (by decide) (i_bd ?_)))
  refine B3_ant hb1 h3 hv1 hi1 (w := 5) (by decide) rfl (fun M4 h4 => i_tl h4.2.2.1 hn6 hi (w := 5) (by decide) rfl (i_bd ?_))
  rw [tv h2 (w := 1) (by decide), tv h3 (w := 2) (by decide), tv h4 (w := 5) (by decide)]
  have efar : anAns (yd_a (aStep P Y) i) 1 - anAns (yd_a Y i) 1 + (64 : Int32) - (anAns (yd_a (aStep P Y) i) 1 - anAns (yd_a Y i) 1 + (64 : Int32)) / (64 : Int32) * (64 : Int32) + (64 : Int32) * (anAns (yd_a (aStep P Y) i) 2 - anAns (yd_a Y i) 2 + (64 : Int32) - (anAns (yd_a (aStep P Y) i) 2 - anAns (yd_a Y i) 2 + (64 : Int32)) / (64 : Int32) * (64 : Int32)) = zn (if st = 0 then 0 else wyN (an_s (yd_a (aStep P Y) i))) := by
    have x1 := hvi.2.1
    have y1 := hvi.2.2.1
    have x2 := hv1i.2.1
    have y2 := hv1i.2.2.1
    show zn (an_x (yd_a (aStep P Y) i)) - zn (an_x (yd_a Y i)) + (64 : Int32) - (zn (an_x (yd_a (aStep P Y) i)) - zn (an_x (yd_a Y i)) + (64 : Int32)) / (64 : Int32) * (64 : Int32) + (64 : Int32) * (zn (an_y (yd_a (aStep P Y) i)) - zn (an_y (yd_a Y i)) + (64 : Int32) - (zn (an_y (yd_a (aStep P Y) i)) - zn (an_y (yd_a Y i)) + (64 : Int32)) / (64 : Int32) * (64 : Int32)) = _
    rw [zn_sub3 (by omega), zn_sub3 (by omega), zn_mod64 (by omega), zn_mod64 (by omega), show (64 : Int32) * zn ((an_y (yd_a (aStep P Y) i) + 64 - an_y (yd_a Y i)) % 64) = zn (64 * ((an_y (yd_a (aStep P Y) i) + 64 - an_y (yd_a Y i)) % 64)) from zn_mul 64 _, zn_add, ff]
  have est : anAns (yd_a (aStep P Y) i) 5 - anAns (yd_a Y i) 5 = zn st := by
    show zn (an_t (yd_a (aStep P Y) i)) - zn (an_t (yd_a Y i)) = zn st
    rw [ft, zn_sub (by omega)]
    congr 1
    omega
  rw [efar, est]
  refine i_na (N := 4) rfl (by decide) (uL_tr uL_P hB) (fun x hx => ?_)
  have h5 := B3_nw hb1 h4 h6 (k := 12) (m := 4) hx
  have hxa : ∀ k, k < 66 → ad k ≠ x := fun k hk2 => mem_ne (h4.1.2.2.1 k hk2).1 hx
  have hxx : ∀ {k : Nat}, k < 4 → vp_in (zn k) (gN (gNw G x 12 4) x) := fun hk2 => by rw [gN_nw]; exact zn_in hk2 (by decide)
  have hw : ∀ {M2 : mS} {j : Nat} {v : Int32}, B3 (gNw G x 12 4) M2 (rU rl x 0) ad o S P q (aStep P Y) T ea tq sq tr Y → B3 (gNw G x 12 4) (wI M2 x j v) (rU rl x 0) ad o S P q (aStep P Y) T ea tq sq tr Y := fun hh => B3_w hb1 hh h6 rU_eq hxa
  refine i_ix (hxx (k := 0) (by decide)) (i_wI (i_ix (hxx (k := 1) (by decide)) (i_wI (i_ix (hxx (k := 2) (by decide)) (i_wI (i_ix (hxx (k := 3) (by decide)) (i_wI ?_)))))))
  have h6' := hw (j := 3) (v := 63) (hw (j := 2) (v := 64) (hw (j := 1) (v := 1) (hw (j := 0) (v := 4032) h5)))
  have hv3 : ∀ t, t < 4 → mI (wI (wI (wI (wI (wZ M4 x) x 0 4032) x 1 1) x 2 64) x 3 63) x t = zn (wyN t) := fun t ht => by
    rw [mI_eq, mI_eq, mI_eq, mI_eq, ← wy_m t ht, wZ_eq]
  generalize wI (wI (wI (wI (wZ M4 x) x 0 4032) x 1 1) x 2 64) x 3 63 = M5 at h6' hv3 ⊢
  refine i_f (zn_nn (by omega)) (i_f (by rw [show (1 : Int32) = zn 1 from rfl, zn_lt (by decide) (by omega)]; omega) (i_if (fun z => ?_) (fun z => ?_)))
  · have z2 : st = 0 := (zn_inj (a := st) (b := 0) (by omega) (by decide)).mp z
    refine k754 ?_ h6'
    rw [if_pos z2]
    rfl
  · have z2 : ¬ st = 0 := fun z3 => z (by rw [z3]; rfl)
    have hs4 : an_s (yd_a (aStep P Y) i) < 4 := hv1i.2.2.2.1
    refine i_cl (p_ant h6'.1.1 h6'.1.2.1 hv1 (by decide) h6'.1.2.2.2.2 (i := i) (w := 3) hi1 (by decide)) (fun M6 r hr6 => ?_)
    obtain ⟨rfl, g1, g2⟩ := hr6
    have h7 := B3_fr hb1 h6' g1 g2
    have e4 : mI M6 x = mI M5 x := g2.1 x (fun hB2 => by
      obtain ⟨k, _, k2, e⟩ := hB2
      exact hxa k k2 e.symm)
    refine i_ix (by rw [gN_nw]; exact zn_in hs4 (by decide)) (k754 ?_ h7)
    rw [show Int32.toNatClampNeg (anAns (yd_a (aStep P Y) i) 3) = an_s (yd_a (aStep P Y) i) from zn_nat (by omega), e4, hv3 _ hs4, if_neg z2]
theorem l_625 (hb : SGb P (yd_n Y)) (hI : IV P (yd_n Y) N Y) (hN : N < 1000) (hP : vP (yd_n Y) P) (htt : ∀ i, i < yd_n Y → an_t (yd_a Y i) < 1000000000) (h : B3 G M rl ad o S P q (aStep P Y) T ea tq sq tr Y) {kb45 : uS → gS → mS → Nat → Nat → Int32 → Int32 → Prop} {v5 v20 : Int32} (h20 : v20 = 0 → yd_k (aStep P Y) = yd_k Y) (hB : uL (uP u (2 * yd_n Y + 24, 8 * yd_n Y + 1536)) bL) (hk : ∀ G' M' rl' S', CL G' M' rl' ad (aWash 40 63 (aStep P Y)) P T 0 ea → SM G' M' rl' o S' P q (aWash 40 63 (aStep P Y)) → kb45 (uP u (2 * yd_n Y + 24, 8 * yd_n Y + 1536)) G' M' o (ad 0) (zn (yd_n Y)) (v5 + 1)) : nl_L_law_625 D kb45 post u G M o (ad 0) (zn (yd_n Y)) v5 tq sq v20 (0 : Int32) := by
  have en : yd_n (aStep P Y) = yd_n Y := aStep_n
  have hI1 := IV_step hP hI
  have hv1 : vY 100000 (aStep P Y) := vY_mono hI1.1 (by omega)
  have hvY : vY 100000 Y := vY_mono hI.1 (by omega)
  have hb1 : SGb P (yd_n (aStep P Y)) := by rw [en]; exact hb
  have hn6 : yd_n Y ≤ 6 := hvY.2.1
  refine ⟨fun m u2 G2 M2 w2 w3 w4 w5 w12 w13 w20 w21 => w2 = o ∧ w3 = ad 0 ∧ w4 = zn (yd_n Y) ∧ w5 = v5 ∧ w12 = tq ∧ w13 = sq ∧ w20 = v20 ∧ ∃ i r2, m + i = yd_n Y ∧ w21 = zn i ∧ u2 = uP u (2 * i, 8 * i) ∧ B3 G2 M2 r2 ad o S P q (aStep P Y) T ea tq sq tr Y, yd_n Y, ⟨rfl, rfl, rfl, rfl, rfl, rfl, rfl, 0, rl, rfl, rfl, rfl, h⟩, ?_⟩
  rintro m u2 G2 M2 w2 w3 w4 w5 w12 w13 w20 w21 ⟨rfl, rfl, rfl, rfl, rfl, rfl, rfl, i, r2, hi, rfl, rfl, h2⟩
  have hB0 := hB
  obtain ⟨hB1, hB2⟩ := hB
  simp only [uP] at hB1 hB2
  by_cases e : i = yd_n Y
  · subst e
    unfold nb_L_law_625
    refine i_t ((zn_le (by omega) (by omega)).mpr (Nat.le_refl _)) (i_cl (p_wash h2.1.1 h2.1.2.1 hv1 h2.1.2.2.2.2 (r := 40) (t := 63) (by decide) (by decide)) (fun M3 x hx => ?_))
    obtain ⟨rfl, g1, g2⟩ := hx
    have s3 := SM_fr hb1 h2.1 h2.2.1 g2
    have c3 := CL_ca h2.1 g1
    have eu : uP (uP u (2 * yd_n Y, 8 * yd_n Y)) (24, 1536) = uP u (2 * yd_n Y + 24, 8 * yd_n Y + 1536) := by
      simp only [uP, Nat.add_assoc]
    have hB3 : uL (uP (uP u (2 * yd_n Y, 8 * yd_n Y)) (24, 1536)) bL := by
      rw [eu]
      exact hB0
    refine ⟨(24, 1536), hB3, s_wash (f := 40) (t := 63) hb1 s3 hv1.1 (by decide) (by decide) ⟨Nat.le_refl _, Nat.le_refl _⟩ (fun G4 M4 r4 S4 kp se h4 => ?_)⟩
    have c4 := CL_kp (Y := aWash 40 63 (aStep P Y)) (by show yd_n (aStep P Y) ≤ 6; rw [en]; exact hn6) c3 kp
    refine i_t rfl ⟨fun m u5 G5 M5 y2 y3 y4 y5 y21 => u5 = uP u (2 * yd_n Y + 24, 8 * yd_n Y + 1536) ∧ G5 = G4 ∧ M5 = M4 ∧ y2 = w2 ∧ y3 = ad 0 ∧ y4 = zn (yd_n Y) ∧ y5 = w5 ∧ ∃ r, m + r = 64 ∧ 40 ≤ r ∧ y21 = zn r, 24, ⟨eu, rfl, rfl, rfl, rfl, rfl, rfl, 40, rfl, Nat.le_refl _, rfl⟩, ?_⟩
    rintro m u5 G5 M5 y2 y3 y4 y5 y21 ⟨rfl, rfl, rfl, rfl, rfl, rfl, rfl, r, hr, hr40, rfl⟩
    unfold nb_L_law_1108
    by_cases e2 : r = 64
    · subst e2
      exact i_t ((zn_le (a := 64) (b := 64) (by decide) (by decide)).mpr (by decide)) (i_bd (hk G5 M5 r4 S4 c4 h4))
    · have hr2 : r < 64 := by omega
      refine i_f (fun z => e2 (by have := (zn_le (a := 64) (b := r) (by decide) (by omega)).mp z; omega)) (i_cls (p_row c4.2.1 c4.2.2.2.2 hr2) (i_t ?_ (i_bd ⟨m - 1, by omega, rfl, rfl, rfl, rfl, rfl, rfl, rfl, r + 1, by omega, by omega, zn_one r⟩)))
      have hz : nz (yd_c (aWash 40 63 (aStep P Y))) (64 * r) 64 = 0 := nz_all0 64 (fun p p1 p2 => by
        show cWash _ (64 * 40) (64 * (63 + 1 - 40)) p = 0
        unfold cWash
        rw [if_pos (by omega)])
      rw [hz]
      rfl
  · have hi2 : i < yd_n Y := by omega
    refine l_ant hb hv1 hvY hP hI.2.1 hI.2.2.2.2 (by have := hI.2.2.2.1.1; omega) h2 hi2 (htt i hi2) h20 (by refine ⟨?_, ?_⟩ <;> simp only [uP] <;> omega) (fun G3 M3 r3 h3 => ⟨m - 1, by omega, rfl, rfl, rfl, rfl, rfl, rfl, rfl, i + 1, r3, by omega, rfl, ?_, h3⟩)
    show (u.1 + 2 * i + 1 + 1, u.2 + 8 * i + 4 + 4) = (u.1 + 2 * (i + 1), u.2 + 8 * (i + 1))
    rw [show u.1 + 2 * i + 1 + 1 = u.1 + 2 * (i + 1) by omega, show u.2 + 8 * i + 4 + 4 = u.2 + 8 * (i + 1) by omega]
end AntsLoop
