/-! the loop that tells, a step, and what is asked of it -/
theorem add_sub_ (a b : Int32) : a + (b - a) = b := by rw [Int32.add_comm, Int32.sub_add_cancel]
section Tell3
variable {G G' : gS} {M M' : mS} {rl rl' : Nat → Nat} {ad : Nat → Nat} {o : Nat} {S : sA} {P : aP} {q : Nat → Nat → Nat} {Y : aY} {T : Nat → Nat} {ea : Int32} {u : uS} {tq sq n N : Nat} {tr : Nat → Nat} {D : va_G} {post : gS → mS → Int32 → Prop}
theorem l_257 (hb : SGb P (yd_n Y)) (hI : IV P (yd_n Y) N Y) (hN : N < 700) (hvN : vN N Y) (hP : vP (yd_n Y) P) (hO : OR P q (yd_n Y)) (hn5 : yd_n Y ≤ 5) (hos : uL (oS q (pg_o P)) (95, 5760)) (hC : CL G M rl ad Y P T 0 ea) (hM : SM G M rl o S P q Y) (hT : LT G rl tq sq tr (yd_n Y)) {kb45 : uS → gS → mS → Nat → Nat → Int32 → Int32 → Prop} {v5 : Int32} (hB : uL (uP (uP u (105, 9300)) (2 * yd_n Y + 24, 8 * yd_n Y + 1536)) bL) (hk : ∀ G' M' rl' S', CL G' M' rl' ad (aWash 40 63 (aStep P Y)) P T 0 ea → SM G' M' rl' o S' P q (aWash 40 63 (aStep P Y)) → kb45 (uP (uP u (105, 9300)) (2 * yd_n Y + 24, 8 * yd_n Y + 1536)) G' M' o (ad 0) (zn (yd_n Y)) (v5 + 1)) : nl_L_law_257 D kb45 post u G M o (ad 0) (zn (yd_n Y)) v5 (dgAll Y P 0) (zn (dk (yd_c Y))) tq sq (0 : Int32) (0 : Int32) := by
  obtain ⟨i1, i2, i3, ⟨q1, q2, q3, q4⟩, i5⟩ := hI
  have hI : IV P (yd_n Y) N Y := ⟨i1, i2, i3, ⟨q1, q2, q3, q4⟩, i5⟩
  have hn6 : yd_n Y ≤ 6 := i1.2.1
  have hv : vY 100000 Y := vY_mono i1 (by omega)
  have hI1 := IV_step hP hI
  have en : yd_n (aStep P Y) = yd_n Y := aStep_n
  have hv1 : vY 100000 (aStep P Y) := vY_mono hI1.1 (by omega)
  have hb1 : SGb P (yd_n (aStep P Y)) := by rw [en]; exact hb
  obtain ⟨_, f2, f3, f4, f5, f6, f7, _⟩ := aStep_f hP i5 hn6
  have ho := hP.2.2.2.1
  have hB0 : uL (uP u (105, 9300)) bL := uL_tr uL_P hB
  have hBu : uL u bL := uL_tr uL_P hB0
  refine ⟨fun m u2 G2 M2 w2 w3 w4 w5 w7 w11 w12 w13 w14 w15 => u2 = u ∧ G2 = G ∧ w2 = o ∧ w3 = ad 0 ∧ w4 = zn (yd_n Y) ∧ w5 = v5 ∧ w7 = dgAll Y P 0 ∧ w11 = zn (dk (yd_c Y)) ∧ w12 = tq ∧ w13 = sq ∧ CL G M2 rl ad Y P T 0 ea ∧ SM G M2 rl o S P q Y ∧ ∃ i, m + i = yd_n Y ∧ w14 = zn (wkA (yd_a Y) i) ∧ w15 = zn i ∧ TL M2 sq tr Y i 0, yd_n Y, ⟨rfl, rfl, rfl, rfl, rfl, rfl, rfl, rfl, rfl, rfl, hC, hM, 0, rfl, rfl, rfl, fun j hj => absurd hj (Nat.not_lt_zero j), fun w hw => absurd hw (Nat.not_lt_zero w)⟩, ?_⟩
  rintro m u2 G2 M2 w2 w3 w4 w5 w7 w11 w12 w13 w14 w15 ⟨rfl, rfl, rfl, rfl, rfl, rfl, rfl, rfl, rfl, rfl, hC2, hM2, i, hi, rfl, rfl, hL2⟩
  unfold nb_L_law_257 nb_L_law_620
  by_cases e : i = yd_n Y
  · subst e
    have hV : LV M2 w13 tr Y := fun j hj => hL2.1 j hj
    refine i_t ((zn_le (by omega) (by omega)).mpr (Nat.le_refl _)) (i_cl (p_foresee hC2.1 hC2.2.1 i1 (by omega) i2 hP hC2.2.2.2.2 (t := 1) (w := 4) (by decide) (by decide) (by decide) (by decide)) (fun M3 r hr => ?_))
    obtain ⟨rfl, g1, g2⟩ := hr
    have hC3 := CL_ca hC2 g1
    have hM3 := SM_fr hb hC2 hM2 g2
    have hV3 := LV_cg (M' := M3) hT hV (fun x _ hx => Fr_r hC2 g2 (by omega))
    refine i_cls (c_count hC3.2.1 hv hC3.2.2.2.2 (w := 7) (by decide)) (i_cls (c_count hC3.2.1 hv hC3.2.2.2.2 (w := 8) (by decide)) (i_cls (c_count hC3.2.1 hv hC3.2.2.2.2 (w := 9) (by decide)) (i_cls (c_count hC3.2.1 hv hC3.2.2.2.2 (w := 6) (by decide)) (i_t rfl ?_))))
    refine i_cl (p_digest hC3.1 hC3.2.1 i1 (by omega) hP hC3.2.2.2.2) (fun M4 r hr => ?_)
    obtain ⟨rfl, g3, g4⟩ := hr
    have hC4 := CL_ca hC3 g3
    have hM4 := SM_fr hb hC3 hM3 g4
    have hV4 := LV_cg (M' := M4) hT hV3 (fun x _ hx => Fr_r hC3 g4 (by omega))
    refine i_t lg_same (i_cl (p_pass hC4.1 hC4.2.1 i1 (by omega) i2 hP hC4.2.2.2.2 (t := 1) (by decide) (by decide)) (fun M5 r hr => ?_))
    obtain ⟨rfl, g5, g6⟩ := hr
    have hC5 := CL_ca hC4 g5
    have hM5 := SM_fr hb hC4 hM4 g6
    have hV5 := LV_cg (M' := M5) hT hV4 (fun x _ hx => Fr_r hC4 g6 (by omega))
    have hC5' : CL G2 M5 rl ad (aStep P Y) P T 0 ea := hC5
    refine ⟨(105, 9300), hB0, s_go2 hb hM5 i1 (by omega) hn5 hos (by omega) i2 hP hO ⟨Nat.le_refl _, Nat.le_refl _⟩ (fun G6 M6 r6 S6 kp se h6 => ?_)⟩
    have hC6 := CL_kp (by rw [en]; exact hn6) hC5' kp
    have hB6 : B3 G6 M6 r6 ad w2 S6 P q (aStep P Y) T ea w12 w13 tr Y := ⟨hC6, h6, LT_kp hT kp, LV_kp hT hV5 kp⟩
    have cnt : ∀ {w : Nat}, w < 11 → m_X9_count G6 M6 (ad 0) (zn w) = some (M6, cntV (aStep P Y) P 0 w) := fun hw => c_count hC6.2.1 hv1 hC6.2.2.2.2 hw
    refine i_cls (cnt (w := 4) (by decide)) (i_t (show zn (dk (yd_c (aStep P Y))) = zn (dk (yd_c Y)) + (zn (dk (yd_c (aStep P Y))) - zn (dk (yd_c Y))) from (add_sub_ _ _).symm) (i_cls (cnt (w := 4) (by decide)) (i_t rfl (i_cls (cnt (w := 7) (by decide)) (i_f ?_ (i_cls (cnt (w := 8) (by decide)) (i_f ?_ (i_cls (cnt (w := 9) (by decide)) (i_f ?_ ?_)))))))))
    · show ¬ zn (yd_m (aStep P Y)) < zn (yd_m Y)
      rw [zn_lt (by omega) (by omega)]
      omega
    · show ¬ zn (yd_w (aStep P Y)) < zn (yd_w Y)
      rw [zn_lt (by omega) (by omega)]
      omega
    · show ¬ zn (yd_k (aStep P Y)) < zn (yd_k Y)
      rw [zn_lt (by omega) (by omega)]
      omega
    · refine i_cls (cnt (w := 9) (by decide)) (i_cls (cnt (w := 3) (by decide)) (i_t ?_ (i_cls (cnt (w := 9) (by decide)) ?_)))
      · show zn (yd_k (aStep P Y)) ≤ zn (yd_k Y) + zn (pg_o P)
        rw [zn_add, zn_le (by omega) (by omega)]
        exact f7
      · have htt : ∀ i, i < yd_n Y → an_t (yd_a Y i) < 1000000000 := fun i hi => by have := (hvN i hi).2; omega
        refine i_if (fun z => ?_) (fun z => ?_)
        · have z2 : yd_k (aStep P Y) ≤ yd_k Y := (zn_le (by omega) (by omega)).mp z
          exact l_625 hb hI (by omega) hP htt hB6 (fun _ => by omega) hB hk
        · exact l_625 hb hI (by omega) hP htt hB6 (fun z2 => absurd z2 (by decide)) hB hk
  · have hi2 : i < yd_n Y := by omega
    refine i_f (by rw [zn_le (by omega) (by omega)]; omega) (l_267 hb hv (vN_mono hvN (by omega)) hC2 hM2 hT hi2 hL2 (fun M3 hC3 hM3 hL3 => ⟨m - 1, by omega, rfl, rfl, rfl, rfl, rfl, rfl, rfl, rfl, rfl, rfl, hC3, hM3, i + 1, by omega, rfl, rfl, hL3⟩))
end Tell3
