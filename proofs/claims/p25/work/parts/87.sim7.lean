/-! the yard by hand: a step -/
/-- rows of orders are the program's orders -/
def OR (P : aP) (q : Nat → Nat → Nat) (n : Nat) : Prop := ∀ k, k < pg_o P → vW n (q k) ∧ vT n (q k) ∧ ∀ Y : aY, yd_n Y = n → vY 100000 Y → yd_t Y < 100000 → ((evL Y (pg_T P k) []).headD 0 = 0 ↔ sHB Y (q k) = false) ∧ aCarry P k Y = sDo Y (q k)
/-- what the orders may use -/
def oS (q : Nat → Nat → Nat) : Nat → uS
  | 0 => (0, 0)
  | k + 1 => uP (oS q k) (oC (q k))
theorem oS_le {q : Nat → Nat → Nat} : ∀ d k : Nat, uL (oS q k) (oS q (k + d)) := by
  intro d
  induction d with
  | zero => intro k; exact ⟨Nat.le_refl _, Nat.le_refl _⟩
  | succ d ih => intro k; exact uL_tr (ih k) (show uL (oS q (k + d)) (uP (oS q (k + d)) (oC (q (k + d)))) from uL_P)
theorem aCarry_t {P : aP} {k : Nat} {Y : aY} : yd_t (aCarry P k Y).1 = yd_t Y := by
  unfold aCarry
  split
  · rfl
  · split
    · split <;> rfl
    · rfl
theorem aOrd_t {P : aP} {k : Nat} {Y : aY} : yd_t (aOrd P k Y) = yd_t Y := by
  unfold aOrd
  split
  · rfl
  · split
    · exact aCarry_t
    · exact aCarry_t
theorem aOrds_t {P : aP} {Y : aY} : ∀ k : Nat, yd_t (aOrds P Y k) = yd_t Y := by
  intro k
  induction k with
  | zero => rfl
  | succ k ih => rw [aOrds, aOrd_t, ih]
/-- meetings are added -/
def mY (k : Nat) (Y : aY) : aY := (yd_c Y, yd_n Y, yd_a Y, yd_t Y, yd_m Y + k, yd_w Y, yd_k Y)
theorem bI_n {b : Bool} : bI b = zn (if b then 1 else 0) := by cases b <;> rfl
section SimStep
variable {G : gS} {M : mS} {rl : Nat → Nat} {o : Nat} {S : sA} {P : aP} {q : Nat → Nat → Nat} {Y : aY} {b u : uS} {bb : Nat} {post : gS → mS → Unit → Prop}
theorem SM_m (hb : SGb P (yd_n Y)) {k d : Nat} (h : SM G M rl o S P q (mY k Y)) : SM G (wI M o 1 (mI M o 1 + zn d)) rl o S P q (mY (k + d) Y) := by
  have ho := h.2.1
  refine SM_ow (Y := mY k Y) hb h rfl rfl rfl ⟨?_, ?_, ?_, ?_⟩
  · rw [mI_eq, if_neg (by decide)]; exact ho.1
  · rw [mI_eq, if_pos rfl, ho.2.1]
    show zn (yd_m Y + k) + zn d = zn (yd_m Y + (k + d))
    rw [zn_add, Nat.add_assoc]
  · rw [mI_eq, if_neg (by decide)]; exact ho.2.2.1
  · rw [mI_eq, if_neg (by decide)]; exact ho.2.2.2
theorem g_300 (hb : SGb P (yd_n Y)) (h : SM G M rl o S P q Y) (hv : vY bb Y) (hu : uL u b) (hk : ∀ M', Kp G M rl G M' rl → SM G M' rl o S P q (aTick (aMeet Y)) → post G M' ()) : nl_X10_go_300 b o post u G M (0 : Int32) := by
  have hi2 := hb.2.1
  refine ⟨fun n u1 G1 M1 v1 => u1 = u ∧ G1 = G ∧ Kp G M rl G M1 rl ∧ ∃ i, n + i = yd_n Y ∧ v1 = zn i ∧ SM G M1 rl o S P q (mY (mtA (yd_a Y) i) Y), yd_n Y, ⟨rfl, rfl, Kp_rf, 0, rfl, rfl, h⟩, ?_⟩
  rintro n u1 G1 M1 v1 ⟨rfl, rfl, kp, i, hi, rfl, h1⟩
  unfold nb_X10_go_300
  refine i_rf (SM_f h1 (i := 2) (by decide)) ?_
  rw [(SM_n h1).2.2.1]
  by_cases e : i = yd_n Y
  · subst e
    refine i_t (show zn (yd_n Y) ≤ zn (yd_n Y) from (zn_le (by omega) (by omega)).mpr (Nat.le_refl _)) (i_wI (hk _ (Kp_tr kp (Kp_wI (SM_io h1).2.1)) ?_))
    have ho := h1.2.1
    refine SM_ow (Y := mY (mtA (yd_a Y) (yd_n Y)) Y) hb h1 rfl rfl rfl ⟨?_, ?_, ?_, ?_⟩
    · rw [mI_eq, if_pos rfl, ho.1]; exact zn_one _
    · rw [mI_eq, if_neg (by decide)]; exact ho.2.1
    · rw [mI_eq, if_neg (by decide)]; exact ho.2.2.1
    · rw [mI_eq, if_neg (by decide)]; exact ho.2.2.2
  · have hi3 : i < yd_n Y := by omega
    refine i_f (by show ¬ zn (yd_n Y) ≤ zn i; rw [zn_le (by omega) (by omega)]; omega) ?_
    refine ⟨fun m u2 G2 M2 v1 v2 => u2 = u1 ∧ G2 = G1 ∧ Kp G1 M rl G1 M2 rl ∧ v1 = zn i ∧ ∃ j, m + j = i ∧ v2 = zn j ∧ SM G1 M2 rl o S P q (mY (mtA (yd_a Y) i + mt1 (yd_a Y) i j) Y), i, ⟨rfl, rfl, kp, rfl, 0, rfl, rfl, h1⟩, ?_⟩
    rintro m u2 G2 M2 v1 v2 ⟨rfl, rfl, kp2, rfl, j, hj, rfl, h2⟩
    unfold nb_X10_go_311 nb_X10_go_335
    by_cases e2 : j = i
    · subst e2
      exact i_t ((zn_le (by omega) (by omega)).mpr (Nat.le_refl _)) (i_bd ⟨n - 1, by omega, rfl, rfl, kp2, j + 1, by omega, zn_one j, h2⟩)
    · have hv2 : vY bb (mY (mtA (yd_a Y) i + mt1 (yd_a Y) i j) Y) := hv
      refine i_f (by rw [zn_le (by omega) (by omega)]; omega) (i_ca0 hu (s_isAt h2 hv2 hi3 (by show j < yd_n Y; omega) ?_))
      have hm : mt1 (yd_a Y) i (j + 1) = mt1 (yd_a Y) i j + if pl_ (yd_a Y i) = pl_ (yd_a Y j) then 1 else 0 := rfl
      refine i_if (fun k => ?_) (fun k => ?_)
      · have e3 : ¬ pl_ (yd_a Y i) = pl_ (yd_a Y j) := fun z => by
          have e4 : atB (yd_a Y) i j = false := bI_0.mp k
          have e5 : atB (yd_a Y) i j = true := beq_iff_eq.mpr z.symm
          rw [e5] at e4
          exact absurd e4 (by decide)
        have h3 := SM_m (d := 0) hb h2
        refine i_wI (i_bd ⟨m - 1, by omega, rfl, rfl, Kp_tr kp2 (Kp_wI (SM_io h2).2.1), rfl, j + 1, by omega, zn_one j, ?_⟩)
        rw [hm, if_neg e3]
        exact h3
      · have e3 : pl_ (yd_a Y i) = pl_ (yd_a Y j) := by
          have e4 : atB (yd_a Y) i j = true := by
            cases e4 : atB (yd_a Y) i j with
            | true => rfl
            | false => exact absurd (bI_0.mpr e4) k
          exact (beq_iff_eq.mp e4).symm
        have h3 := SM_m (d := 1) hb h2
        refine i_wI (i_bd ⟨m - 1, by omega, rfl, rfl, Kp_tr kp2 (Kp_wI (SM_io h2).2.1), rfl, j + 1, by omega, zn_one j, ?_⟩)
        rw [hm, if_pos e3]
        exact h3
theorem g_56l (hb : SGb P (yd_n Y)) (h : SM G M rl o S P q Y) (hv : vY bb Y) (hbb : bb < 100000) (hr : vR P Y) (hP : vP (yd_n Y) P) (hB : uL (uP u (2 * yd_n Y, yd_n Y * (bb + 5))) b) (hk : ∀ G' M' rl' S', Kp G M rl G' M' rl' → SE S S' → SM G' M' rl' o S' P q (aTick (aMeet (aMvs P Y (yd_n Y)))) → post G' M' ()) : nl_X10_go_56 b o post u G M (0 : Int32) := by
  have hi2 := hb.2.1
  have h6 := hv.2.1
  refine ⟨fun n u1 G1 M1 v1 => ∃ i rl1 S1, n + i = yd_n Y ∧ v1 = zn i ∧ uL u1 (uP u (2 * i, i * (bb + 5))) ∧ Kp G M rl G1 M1 rl1 ∧ SE S S1 ∧ SM G1 M1 rl1 o S1 P q (aMvs P Y i), yd_n Y, ⟨0, rl, S, rfl, rfl, uL_P, Kp_rf, SE_rf, h⟩, ?_⟩
  rintro n u1 G1 M1 v1 ⟨i, rl1, S1, hi, rfl, hu1, kp, se, h1⟩
  have hvi := aMvs_v hP hv hr i (by omega)
  have hni := aMvs_n (P := P) (Y := Y) i
  have hb1 : SGb P (yd_n (aMvs P Y i)) := by rw [hni]; exact hb
  by_cases e : i = yd_n Y
  · unfold nb_X10_go_56
    refine i_rf (SM_f h1 (i := 2) (by decide)) ?_
    rw [(SM_n h1).2.2.1, hni]
    refine i_t ((zn_le (by omega) (by omega)).mpr (by omega)) ?_
    have hub : uL u1 b := uL_tr hu1 (uL_tr (by rw [e]; exact ⟨Nat.le_refl _, Nat.le_refl _⟩) hB)
    refine g_300 hb1 h1 (vYi_v hvi.1) hub (fun M' kp2 hs => hk G1 M' rl1 S1 (Kp_tr kp kp2) se ?_)
    rw [e] at hs
    exact hs
  · have hi3 : i < yd_n (aMvs P Y i) := by rw [hni]; omega
    have hvA := hvi.1.2.2 i hi3
    have hn1 : an_n (yd_a (aMvs P Y i) i) ≤ bb := by
      have := hvA.2
      rw [if_neg (by omega)] at this
      exact this
    have hmul : (i + 1) * (bb + 5) = i * (bb + 5) + (bb + 5) := by rw [Nat.add_mul]; omega
    have hmul2 : (i + 1) * (bb + 5) ≤ yd_n Y * (bb + 5) := Nat.mul_le_mul_right _ (by omega)
    obtain ⟨hu2, hu3⟩ := hu1
    obtain ⟨hB2, hB3⟩ := hB
    simp only [uP] at hu2 hu3 hB2 hB3
    have hcost : uL (uP (uP u1 (1, 4)) (1, an_n (yd_a (aMvs P Y i) i) + 1)) (uP u (2 * (i + 1), (i + 1) * (bb + 5))) := by
      refine ⟨?_, ?_⟩
      · show u1.1 + 1 + 1 ≤ u.1 + 2 * (i + 1)
        omega
      · show u1.2 + 4 + (an_n (yd_a (aMvs P Y i) i) + 1) ≤ u.2 + (i + 1) * (bb + 5)
        omega
    have hstep : uL (uP u (2 * (i + 1), (i + 1) * (bb + 5))) b := by
      refine ⟨?_, ?_⟩
      · show u.1 + 2 * (i + 1) ≤ b.1
        omega
      · show u.2 + (i + 1) * (bb + 5) ≤ b.2
        omega
    refine g_56 hb1 h1 hi3 (by omega) hvA.1 hvi.1.1 (hvi.2 i hi3) hP (uL_tr hcost hstep) (fun u' G' M' rl' S' hu' kp2 se2 hs => ?_)
    refine ⟨n - 1, by omega, i + 1, rl', S', by omega, rfl, ?_, Kp_tr kp kp2, SE_tr se se2, hs⟩
    rcases hu' with rfl | rfl
    · refine ⟨?_, ?_⟩
      · show u'.1 ≤ u.1 + 2 * (i + 1)
        omega
      · show u'.2 ≤ u.2 + (i + 1) * (bb + 5)
        omega
    · exact hcost
theorem s_go (hb : SGb P (yd_n Y)) (h : SM G M rl o S P q Y) (hv : vY bb Y) (hbb : bb < 100000) (ht : yd_t Y < 100000) (hr : vR P Y) (hP : vP (yd_n Y) P) (hO : OR P q (yd_n Y)) (hB : uL (uP (oS q (pg_o P)) (2 * yd_n Y, yd_n Y * (bb + 5))) b) (hk : ∀ G' M' rl' S', Kp G M rl G' M' rl' → SE S S' → SM G' M' rl' o S' P q (aStep P Y) → post G' M' ()) : n_X10_go b G M o post := by
  have hi2 := hb.2.1
  have hK := hb.2.2
  unfold n_X10_go
  refine i_rf (SM_f h (i := 4) (by decide)) (i_bd ?_)
  rw [(SM_n h).2.2.2.2]
  refine ⟨fun n u1 G1 M1 v1 v2 v3 => ∃ k rl1 S1, n + k = pg_o P ∧ v1 = sg S 4 ∧ v2 = zn (pg_o P) ∧ v3 = zn k ∧ uL u1 (oS q k) ∧ Kp G M rl G1 M1 rl1 ∧ SE S S1 ∧ SM G1 M1 rl1 o S1 P q (aOrds P Y k), pg_o P, ⟨0, rl, S, rfl, rfl, rfl, rfl, ⟨Nat.le_refl _, Nat.le_refl _⟩, Kp_rf, SE_rf, h⟩, ?_⟩
  rintro n u1 G1 M1 v1 v2 v3 ⟨k, rl1, S1, hkn, rfl, rfl, rfl, hu, kp, se, h1⟩
  have hnk := aOrds_n (P := P) (Y := Y) k
  have htk := aOrds_t (P := P) (Y := Y) k
  have hvk := aOrds_v hP hv hr k (by omega)
  have hbk : SGb P (yd_n (aOrds P Y k)) := by rw [hnk]; exact hb
  unfold nb_X10_go_10 nb_X10_go_48
  by_cases e : k = pg_o P
  · subst e
    refine i_t ((zn_le (by omega) (by omega)).mpr (Nat.le_refl _)) ?_
    refine g_56l hbk h1 hvk.1 hbb hvk.2 (by rw [hnk]; exact hP) (by
      rw [hnk]
      refine uL_tr ?_ hB
      exact ⟨Nat.add_le_add_right hu.1 _, Nat.add_le_add_right hu.2 _⟩) (fun G' M' rl' S' kp2 se2 hs => hk G' M' rl' S' (Kp_tr kp kp2) (SE_tr se se2) ?_)
    rw [hnk] at hs
    exact hs
  · have hk2 : k < pg_o P := by omega
    obtain ⟨oW, oT, oY⟩ := hO k hk2
    obtain ⟨oH, oD⟩ := oY (aOrds P Y k) hnk (vY_mono hvk.1 (by omega)) (by rw [htk]; exact ht)
    obtain ⟨hqo, hno⟩ := SM_o h1 hk2
    have esg : sg S1 4 = sg S 4 := by rw [se.1]
    rw [← esg]
    have hub : uL (oS q (k + 1)) b := uL_tr (show uL (oS q (k + 1)) (oS q (pg_o P)) by
      have := oS_le (q := q) (pg_o P - (k + 1)) (k + 1)
      rw [show k + 1 + (pg_o P - (k + 1)) = pg_o P by omega] at this
      exact this) (uL_tr uL_P hB)
    have hub0 : uL u1 b := uL_tr hu (uL_tr (show uL (oS q k) (oS q (k + 1)) from uL_P) hub)
    have hu0 : uL u1 (oS q (k + 1)) := uL_tr hu (show uL (oS q k) (oS q (k + 1)) from uL_P)
    have hu1 : uL (uP u1 (oC (q k))) (oS q (k + 1)) := ⟨Nat.add_le_add_right hu.1 _, Nat.add_le_add_right hu.2 _⟩
    refine i_f (by rw [zn_le (by omega) (by omega)]; omega) (i_ix (by rw [(SM_n h1).2.2.2.2]; exact zn_in hk2 (by omega)) ?_)
    rw [zn_nat (by omega)]
    refine i_rf hqo (i_ca0 hub0 (s_holds h1 (vY_mono hvk.1 (by omega)) (by rw [htk]; exact ht) hno (fun j hj => h1.2.2.2.2.2 k hk2 j hj) (by rw [hnk]; exact oT) ?_))
    have hst : aOrds P Y (k + 1) = aOrd P k (aOrds P Y k) := rfl
    refine i_if (fun kk => ?_) (fun kk => ?_)
    · have e1 : sHB (aOrds P Y k) (q k) = false := bI_0.mp kk
      refine i_bd ⟨n - 1, by omega, k + 1, rl1, S1, by omega, rfl, rfl, zn_one k, hu0, kp, se, ?_⟩
      rw [hst]
      unfold aOrd
      rw [if_pos (oH.mpr e1)]
      exact h1
    · have e1 : ¬ (evL (aOrds P Y k) (pg_T P k) []).headD 0 = 0 := fun z => kk (bI_0.mpr (oH.mp z))
      have hst2 : aOrd P k (aOrds P Y k) = if (sDo (aOrds P Y k) (q k)).2 then aOne (sDo (aOrds P Y k) (q k)).1 else (sDo (aOrds P Y k) (q k)).1 := by
        unfold aOrd
        rw [if_neg e1, oD]
      refine ⟨oC (q k), uL_tr hu1 hub, s_does hbk h1 hvk.1 hk2 (by rw [hnk]; exact oW) ⟨Nat.le_refl _, Nat.le_refl _⟩ (fun G2 M2 rl2 S2 kp2 se2 h2 => ?_)⟩
      have esg2 : sg S1 4 = sg S2 4 := by rw [se2.1]
      refine i_if (fun k3 => ?_) (fun k3 => ?_)
      · have e2 := bI_0.mp k3
        refine i_bd ⟨n - 1, by omega, k + 1, rl2, S2, by omega, rfl, rfl, zn_one k, hu1, Kp_tr kp kp2, SE_tr se se2, ?_⟩
        rw [hst, hst2, if_neg (by rw [e2]; decide)]
        exact h2
      · have e2 : (sDo (aOrds P Y k) (q k)).2 = true := by
          cases e2 : (sDo (aOrds P Y k) (q k)).2 with
          | true => rfl
          | false => exact absurd (bI_0.mpr e2) k3
        have hb2 : SGb P (yd_n (sDo (aOrds P Y k) (q k)).1) := by
          rw [← oD, aCarry_n]
          exact hbk
        refine i_wI (i_bd ⟨n - 1, by omega, k + 1, rl2, S2, by omega, rfl, rfl, zn_one k, hu1, Kp_tr kp (Kp_tr kp2 (Kp_wI (SM_io h2).2.1)), SE_tr se se2, ?_⟩)
        rw [hst, hst2, if_pos e2]
        have ho := h2.2.1
        refine SM_ow hb2 h2 rfl rfl rfl ⟨?_, ?_, ?_, ?_⟩
        · rw [mI_eq, if_neg (by decide)]; exact ho.1
        · rw [mI_eq, if_neg (by decide)]; exact ho.2.1
        · rw [mI_eq, if_neg (by decide)]; exact ho.2.2.1
        · rw [mI_eq, if_pos rfl, ho.2.2.2]; exact zn_one _
end SimStep
