/-! something that a number chooses, done to both -/
/-- a number's last 31 bits -/
def bwN (v : Int32) : Nat := (v &&& (2147483647 : Int32)).toNatClampNeg
theorem bw_nn (v : Int32) : ¬ (v &&& (2147483647 : Int32)) < 0 := by
  rw [Int32.lt_iff_toInt_lt, show (0 : Int32).toInt = 0 from rfl]
  have h : (v &&& (2147483647 : Int32)).toBitVec.msb = false := by
    rw [Int32.toBitVec_and, BitVec.msb_and]
    rw [show (2147483647 : Int32).toBitVec.msb = false from by decide, Bool.and_false]
  have e : (v &&& (2147483647 : Int32)).toInt = (v &&& (2147483647 : Int32)).toBitVec.toInt := rfl
  rw [e, BitVec.toInt_eq_msb_cond, h]
  simp
theorem bw_zn (v : Int32) : v &&& (2147483647 : Int32) = zn (bwN v) ∧ bwN v < 2147483648 := by
  obtain ⟨n, hn, e⟩ := I32_nat (bw_nn v)
  have : bwN v = n := by unfold bwN; rw [e, zn_nat hn]
  rw [this]
  exact ⟨e, hn⟩
theorem s_below {D : va_G} {b : uS} {G : gS} {M : mS} {v c1 : Int32} {n : Nat} {post : gS → mS → Int32 → Prop} (hc : c1 = zn n) (h0 : 0 < n) (h1 : n < 2147483648) (hk : post G M (zn (bwN v % n))) : n_L_below D b G M v c1 post := by
  subst hc
  obtain ⟨e, hb⟩ := bw_zn v
  unfold n_L_below
  refine i_ck (fun z => ?_) ?_
  · have := (zn_inj (b := 0) h1 (by decide)).mp z
    omega
  · rw [e, zn_mod hb h1]
    exact hk
theorem min63 {a : Nat} (ha : a < 1000) : (if zn a < (63 : Int32) then zn a else (63 : Int32)) = zn (if a < 63 then a else 63) := by
  rw [show (63 : Int32) = zn 63 from rfl]
  by_cases e : a < 63
  · rw [if_pos e, if_pos ((zn_lt (b := 63) (by omega) (by decide)).mpr e)]
  · rw [if_neg e, if_neg (fun z => e ((zn_lt (b := 63) (by omega) (by decide)).mp z))]
/-- an ant's path is empty -/
def anZ (A : aA) : aA := (an_r A, an_x A, an_y A, an_s A, an_w A, an_t A, 0, an_h A)
section Act
variable {G : gS} {M : mS} {rl : Nat → Nat} {ad : Nat → Nat} {o : Nat} {S : sA} {P : aP} {q : Nat → Nat → Nat} {Y : aY} {T : Nat → Nat} {ea : Int32} {b u : uS} {bb : Nat}
theorem SM_reset (hb : SGb P (yd_n Y)) (h : SM G M rl o S P q Y) {i x : Nat} (hi : i < yd_n Y) (hx : x ∉ gL G) : SM (gSt (gNw G x 12 0) (sg S 3) i x) (wZ M x) (rU rl x (4000 + i)) o (stP S i x) P q (aAnt i (anZ (yd_a Y i)) Y) ∧ Kp G M rl (gSt (gNw G x 12 0) (sg S 3) i x) (wZ M x) (rU rl x (4000 + i)) := by
  have h2 := SM_nw (r := 4000 + i) (k := 12) (n := 0) hb h hx
  exact ⟨SM_path h2 (i := i) hi (A := anZ (yd_a Y i)) gL_nw gK_nw rU_eq gN_nw (SM_ar h2 hi) (fun t ht => absurd ht (Nat.not_lt_zero t)), Kp_tr (Kp_nw hx) (Kp_st (SGo_g h2.1.1 (i := 3) (by decide)).2.1)⟩
/-- what one step may use -/
theorem s_go2 (hb : SGb P (yd_n Y)) (h : SM G M rl o S P q Y) (hv : vY bb Y) (hbb : bb ≤ 700) (hn5 : yd_n Y ≤ 5) (hos : uL (oS q (pg_o P)) (95, 5760)) (ht : yd_t Y < 100000) (hr : vR P Y) (hP : vP (yd_n Y) P) (hO : OR P q (yd_n Y)) {post : gS → mS → Unit → Prop} (hB : uL (105, 9300) b) (hk : ∀ G' M' rl' S', Kp G M rl G' M' rl' → SE S S' → SM G' M' rl' o S' P q (aStep P Y) → post G' M' ()) : n_X10_go b G M o post := by
  refine s_go hb h hv (by omega) ht hr hP hO (uL_tr ?_ hB) hk
  have h1 : yd_n Y * (bb + 5) ≤ 5 * 705 := Nat.mul_le_mul hn5 (by omega)
  obtain ⟨o1, o2⟩ := hos
  simp only at o1 o2
  refine ⟨?_, ?_⟩
  · show (oS q (pg_o P)).1 + 2 * yd_n Y ≤ 105
    omega
  · show (oS q (pg_o P)).2 + yd_n Y * (bb + 5) ≤ 9300
    omega
theorem aStep_t : yd_t (aStep P Y) = yd_t Y + 1 := by
  have h : ∀ i, yd_t (aMvs P (aOrds P Y (pg_o P)) i) = yd_t Y := by
    intro i
    induction i with
    | zero => exact aOrds_t _
    | succ i ih =>
      rw [aMvs, ← ih]
      unfold aMv
      split <;> rfl
  show yd_t (aMvs P (aOrds P Y (pg_o P)) (yd_n Y)) + 1 = _
  rw [h]
theorem aSteps_t : ∀ k : Nat, yd_t (aSteps P Y k) = yd_t Y + k := by
  intro k
  induction k with
  | zero => rfl
  | succ k ih => rw [aSteps, aStep_t, ih]; omega
/-- what an act makes of a yard -/
def AcR (P : aP) (Y Y' : aY) : Prop := (∃ p v, v < 6 ∧ Y' = aSet p v Y) ∨ (∃ f t, f ≤ t ∧ t < 64 ∧ Y' = aWash f t Y) ∨ (∃ i s, i < yd_n Y ∧ s < 4 ∧ Y' = aAnt i (anFace s (yd_a Y i)) Y) ∨ (∃ i w, i < yd_n Y ∧ w < 2 ∧ Y' = aAnt i (anWalk w (yd_a Y i)) Y) ∨ (∃ i x y, i < yd_n Y ∧ x < 64 ∧ y < 64 ∧ Y' = aAnt i (anMove x y (yd_a Y i)) Y) ∨ ∃ k, k ≤ 60 ∧ Y' = aSteps P Y k
theorem s_act (hb : SGb P (yd_n Y)) (hC : CL G M rl ad Y P T 0 ea) (h : SM G M rl o S P q Y) (hv : vY bb Y) (hbb : bb ≤ 640) (h1n : 0 < yd_n Y) (hn5 : yd_n Y ≤ 5) (hos : uL (oS q (pg_o P)) (95, 5760)) (ht : yd_t Y < 10000) (hr : vR P Y) (hP : vP (yd_n Y) P) (hO : OR P q (yd_n Y)) {D : va_G} {c2 : Int32} {post : gS → mS → Int32 → Prop} (hB : uL (6313, 558832) b) (hk : ∀ G' M' rl' S' Y', CL G' M' rl' ad Y' P T 0 ea → SM G' M' rl' o S' P q Y' → AcR P Y Y' → post G' M' 1) : n_L_act D b G M (ad 0) o c2 post := by
  have h6 := hv.2.1
  obtain ⟨hB1, hB2⟩ := hB
  simp only at hB1 hB2
  unfold n_L_act
  refine i_rf (SM_f h (i := 2) (by decide)) (i_ca0 uL0 (s_below (by rw [(SM_n h).2.2.1]) h1n (by omega) (i_rf (SM_f h (i := 2) (by decide)) ?_)))
  have ha : bwN (c2 >>> ((3 : Int32) &&& 31)) % yd_n Y < yd_n Y := Nat.mod_lt _ h1n
  generalize bwN (c2 >>> ((3 : Int32) &&& 31)) % yd_n Y = a at ha ⊢
  obtain ⟨hqa, hna⟩ := SM_a h ha
  obtain ⟨_, ra2, _, ra4, _⟩ := h.1.2.2.2.2.1 a ha
  have sia : Si rl (sra S a) := by unfold Si; rw [ra4]; omega
  have hAr := SM_ar h ha
  have hvi := hv.2.2 a ha
  have hpin : vp_in (zn a) (gN G (sg S 2)) := by rw [(SM_n h).2.2.1]; exact zn_in ha (by omega)
  refine i_ix hpin ?_
  rw [zn_nat (by omega)]
  have m9 : bwN c2 % 9 < 9 := Nat.mod_lt _ (by decide)
  refine i_rf hqa (i_ca0 uL0 (s_below (n := 9) rfl (by decide) (by decide) ?_))
  generalize bwN c2 % 9 = m at m9 ⊢
  refine i_if (fun _ => ?_) (fun _ => i_if (fun _ => ?_) (fun _ => i_if (fun _ => ?_) (fun _ => i_if (fun _ => ?_) (fun _ => i_if (fun _ => ?_) (fun _ => ?_)))))
  · -- a stone is painted
    refine i_ca0 uL0 (s_below (n := 64) rfl (by decide) (by decide) ?_)
    have hc : bwN (c2 >>> ((4 : Int32) &&& 31)) % 64 < 64 := Nat.mod_lt _ (by decide)
    generalize bwN (c2 >>> ((4 : Int32) &&& 31)) % 64 = c at hc ⊢
    refine i_ca0 uL0 (s_below (n := 14) rfl (by decide) (by decide) ?_)
    have hr0 : bwN (c2 >>> ((6 : Int32) &&& 31)) % 14 < 14 := Nat.mod_lt _ (by decide)
    generalize bwN (c2 >>> ((6 : Int32) &&& 31)) % 14 = r at hr0 ⊢
    rw [show (26 : Int32) + zn r = zn (26 + r) from zn_add 26 r]
    have hr2 : 26 + r < 64 := by omega
    obtain ⟨hqy, hny⟩ := SM_y h hr2
    obtain ⟨_, ry2, _, ry4, _⟩ := h.1.2.2.2.1 _ hr2
    have siy : Si rl (sry S (26 + r)) := by unfold Si; rw [ry4]; omega
    have hy : vp_in (zn (26 + r)) (gN G (sg S 1)) := by rw [(SM_n h).2.1]; exact zn_in hr2 (by decide)
    have hyc : vp_in (zn c) (gN G (sry S (26 + r))) := by rw [hny]; exact zn_in hc (by decide)
    refine i_bd (i_rf (SM_f h (i := 1) (by decide)) (i_ix hy ?_))
    rw [zn_nat (a := 26 + r) (by omega), zn_nat (a := c) (by omega)]
    refine i_rf hqy (i_ix hyc (i_bd (i_rf (SM_f h (i := 1) (by decide)) (i_ix hy (i_rf hqy (i_ca0 uL0 (s_below (n := 6) rfl (by decide) (by decide) ?_)))))))
    have hw : bwN (c2 >>> ((8 : Int32) &&& 31)) % 6 < 6 := Nat.mod_lt _ (by decide)
    generalize bwN (c2 >>> ((8 : Int32) &&& 31)) % 6 = w at hw ⊢
    have h2 := SM_cell (v := w) hb h hr2 hc
    refine i_ix hyc (i_wI (i_rf (SM_f h (i := 1) (by decide)) (i_ix hy (i_rf hqy (i_ix hyc ?_)))))
    have ev : mI (wI M (sry S (26 + r)) c (zn w)) (sry S (26 + r)) c = zn w := by rw [mI_eq, if_pos rfl]
    rw [ev, h.2.2.1 _ hr2 _ hc]
    have hC2 := CL_kp h6 hC (Kp_wI (M := M) (j := c) (v := zn w) (G := G) siy)
    refine i_cl (p_paint hC2.1 hC2.2.1 hv hC2.2.2.2.2 hc hr2 hw) (fun M3 x hx => ?_)
    obtain ⟨rfl, g1, g2⟩ := hx
    refine i_t rfl (i_ck (Or.inr rfl) (hk G M3 rl S (aSet (64 * (26 + r) + c) w Y) (CL_ca hC2 g1) (SM_fr (Y' := aSet (64 * (26 + r) + c) w Y) hb hC2 h2 g2) (Or.inl ⟨_, w, hw, rfl⟩)))
  · -- rows are washed
    refine i_ca0 uL0 (s_below (n := 30) rfl (by decide) (by decide) ?_)
    have hf : bwN (c2 >>> ((4 : Int32) &&& 31)) % 30 < 30 := Nat.mod_lt _ (by decide)
    generalize bwN (c2 >>> ((4 : Int32) &&& 31)) % 30 = f at hf ⊢
    rw [show (20 : Int32) + zn f = zn (20 + f) from zn_add 20 f]
    refine i_bd (i_ca0 uL0 (s_below (n := 12) rfl (by decide) (by decide) ?_))
    have hd : bwN (c2 >>> ((7 : Int32) &&& 31)) % 12 < 12 := Nat.mod_lt _ (by decide)
    generalize bwN (c2 >>> ((7 : Int32) &&& 31)) % 12 = d at hd ⊢
    rw [zn_add, min63 (by omega)]
    have ht1 : 20 + f ≤ (if 20 + f + d < 63 then 20 + f + d else 63) ∧ (if 20 + f + d < 63 then 20 + f + d else 63) < 64 ∧ (if 20 + f + d < 63 then 20 + f + d else 63) ≤ 20 + f + 11 := by
      by_cases e : 20 + f + d < 63
      · rw [if_pos e]; omega
      · rw [if_neg e]; omega
    generalize (if 20 + f + d < 63 then 20 + f + d else 63) = t at ht1 ⊢
    obtain ⟨t1, t2, t3⟩ := ht1
    refine i_bd (i_cl (p_wash hC.1 hC.2.1 hv hC.2.2.2.2 t1 t2) (fun M2 x hx => ?_))
    obtain ⟨rfl, g1, g2⟩ := hx
    have h2 := SM_fr hb hC h g2
    have hC2 := CL_ca hC g1
    refine ⟨(t + 1 - (20 + f), 64 * (t + 1 - (20 + f))), ⟨by show 0 + (t + 1 - (20 + f)) ≤ b.1; omega, by show 0 + 64 * (t + 1 - (20 + f)) ≤ b.2; omega⟩, s_wash hb h2 hv.1 t1 t2 ⟨Nat.le_refl _, Nat.le_refl _⟩ (fun G3 M3 rl3 S3 kp se h3 => ?_)⟩
    exact i_t rfl (i_ck (Or.inr rfl) (hk G3 M3 rl3 S3 (aWash (20 + f) t Y) (CL_kp (Y := aWash (20 + f) t Y) h6 hC2 kp) h3 (Or.inr (Or.inl ⟨_, t, t1, t2, rfl⟩))))
  · -- an ant is faced
    have hi3 : ∀ {G' : gS}, gN G' (sra S a) = 6 → vp_in (3 : Int32) (gN G' (sra S a)) := fun e => by rw [e]; exact vi_3 (by decide) (by decide)
    refine i_ix (hi3 hna) (i_bd (i_ca0 uL0 (s_below (n := 4) rfl (by decide) (by decide) ?_)))
    have hw : bwN (c2 >>> ((5 : Int32) &&& 31)) % 4 < 4 := Nat.mod_lt _ (by decide)
    generalize bwN (c2 >>> ((5 : Int32) &&& 31)) % 4 = w at hw ⊢
    rw [nat_3, hAr.2.2.2.1]
    have h2 : SM G (wI M (sra S a) 3 (zn w)) rl o S P q (aAnt a (anSide w (yd_a Y a)) Y) := by
      refine SM_ant hb h ha (fun y hy => mI_ne hy) ?_ rfl (fun _ _ => rfl)
      unfold aRow
      rw [mI_eq, mI_eq, mI_eq, mI_eq, mI_eq, mI_eq, if_neg (by decide), if_neg (by decide), if_neg (by decide), if_pos rfl, if_neg (by decide), if_neg (by decide)]
      exact ⟨hAr.1, hAr.2.1, hAr.2.2.1, rfl, hAr.2.2.2.2.1, hAr.2.2.2.2.2⟩
    refine i_ix (hi3 hna) (i_wI (i_rf (SM_f h (i := 3) (by decide)) (i_na (N := 0) rfl (by decide) ⟨by show 0 + 1 ≤ b.1; omega, by show 0 + 0 ≤ b.2; omega⟩ (fun x hx => ?_))))
    have hb2 : SGb P (yd_n (aAnt a (anSide w (yd_a Y a)) Y)) := hb
    have h3 := SM_nw (r := 4000 + a) (k := 12) (n := 0) hb2 h2 hx
    refine i_ix (by rw [(SM_n h3).2.2.2.1]; exact zn_in ha (by show yd_n Y ≤ _; omega)) (i_sR ?_)
    obtain ⟨h4, kp⟩ := SM_reset hb2 h2 (i := a) ha hx
    rw [ya_at, aAnt_aAnt] at h4
    have hC2 := CL_kp h6 hC (Kp_tr (Kp_wI (M := M) (j := 3) (v := zn w) (G := G) sia) kp)
    have hA4 := SM_ar h4 (i := a) ha
    rw [ya_at] at hA4
    have e3 : mI (wZ (wI M (sra S a) 3 (zn w)) x) (sra S a) 3 = zn w := hA4.2.2.2.1
    rw [e3]
    refine i_ix (hi3 (show gN (gNw G x 12 0) (sra S a) = 6 from (SM_a h3 (i := a) ha).2)) ?_
    refine i_cl (p_face hC2.1 hC2.2.1 hv hC2.2.2.2.2 ha hw) (fun M5 y hy => ?_)
    obtain ⟨rfl, g1, g2⟩ := hy
    refine i_t rfl (i_ck (Or.inr rfl) (hk _ M5 (rU rl x (4000 + a)) (stP S a x) (aAnt a (anFace w (yd_a Y a)) Y) (CL_ca hC2 g1) (SM_fr (Y' := aAnt a (anFace w (yd_a Y a)) Y) hb hC2 h4 g2) (Or.inr (Or.inr (Or.inl ⟨a, w, ha, hw, rfl⟩)))))
  · -- an ant is halted, or walks
    have hw := hvi.1.2.2.2.2.1
    have hi4 : vp_in (4 : Int32) (gN G (sra S a)) := by rw [hna]; exact vi_4 (by decide) (by decide)
    rw [nat_4, hAr.2.2.2.2.1, show (1 : Int32) - zn (an_w (yd_a Y a)) = zn (1 - an_w (yd_a Y a)) from zn_sub (a := 1) (by omega)]
    have h2 : SM G (wI M (sra S a) 4 (zn (1 - an_w (yd_a Y a)))) rl o S P q (aAnt a (anWalk (1 - an_w (yd_a Y a)) (yd_a Y a)) Y) := by
      refine SM_ant hb h ha (fun y hy => mI_ne hy) ?_ rfl (fun _ _ => rfl)
      unfold aRow
      rw [mI_eq, mI_eq, mI_eq, mI_eq, mI_eq, mI_eq, if_neg (by decide), if_neg (by decide), if_neg (by decide), if_neg (by decide), if_pos rfl, if_neg (by decide)]
      exact ⟨hAr.1, hAr.2.1, hAr.2.2.1, hAr.2.2.2.1, rfl, hAr.2.2.2.2.2⟩
    have hC2 := CL_kp h6 hC (Kp_wI (M := M) (j := 4) (v := zn (1 - an_w (yd_a Y a))) (G := G) sia)
    refine i_ix hi4 (i_ix hi4 (i_wI (i_cl (p_halt hC2.1 hC2.2.1 hv hC2.2.2.2.2 ha) (fun M5 y hy => ?_))))
    obtain ⟨rfl, g1, g2⟩ := hy
    have h3 := SM_fr (Y' := aAnt a (anWalk (1 - an_w (yd_a Y a)) (yd_a Y a)) Y) hb hC2 h2 g2
    have hA4 := SM_ar h3 (i := a) ha
    rw [ya_at] at hA4
    have e4 : mI M5 (sra S a) 4 = zn (1 - an_w (yd_a Y a)) := hA4.2.2.2.2.1
    rw [e4]
    have fin := hk G M5 rl S _ (CL_ca hC2 g1) h3 (Or.inr (Or.inr (Or.inr (Or.inl ⟨a, 1 - an_w (yd_a Y a), ha, by omega, rfl⟩))))
    refine i_ix hi4 (i_if (fun k => i_t k (i_ck (Or.inr rfl) fin)) (fun k => i_t ?_ (i_ck (Or.inr rfl) fin)))
    have : ¬ 1 - an_w (yd_a Y a) = 1 := fun z => k (by rw [z]; rfl)
    rw [show 1 - an_w (yd_a Y a) = 0 by omega]
    rfl
  · -- an ant is placed
    have hx1 := hvi.1.2.1
    have hy1 := hvi.1.2.2.1
    have hix : ∀ {G' : gS} {k : Nat}, gN G' (sra S a) = 6 → k < 6 → vp_in (zn k) (gN G' (sra S a)) := fun e hk => by rw [e]; exact zn_in hk (by decide)
    rw [nat_1, nat_2, hAr.2.1, hAr.2.2.1, zrc']
    refine i_ix (hix (k := 2) hna (by decide)) (i_ix (hix (k := 1) hna (by decide)) (i_bd (i_ca0 uL0 (s_below (n := 64) rfl (by decide) (by decide) ?_))))
    have hc : bwN (c2 >>> ((4 : Int32) &&& 31)) % 64 < 64 := Nat.mod_lt _ (by decide)
    generalize bwN (c2 >>> ((4 : Int32) &&& 31)) % 64 = c at hc ⊢
    refine i_ix (hix (k := 1) hna (by decide)) (i_wI (i_ca0 uL0 (s_below (n := 64) rfl (by decide) (by decide) ?_)))
    have hr0 : bwN (c2 >>> ((6 : Int32) &&& 31)) % 64 < 64 := Nat.mod_lt _ (by decide)
    generalize bwN (c2 >>> ((6 : Int32) &&& 31)) % 64 = r at hr0 ⊢
    have h2 : SM G (wI (wI M (sra S a) 1 (zn c)) (sra S a) 2 (zn r)) rl o S P q (aAnt a (anPos c r (yd_a Y a)) Y) := by
      refine SM_ant hb h ha (fun y hy => by rw [mI_ne hy, mI_ne hy]) ?_ rfl (fun _ _ => rfl)
      unfold aRow
      simp only [mI_eq]
      exact ⟨hAr.1, rfl, rfl, hAr.2.2.2.1, hAr.2.2.2.2.1, hAr.2.2.2.2.2⟩
    refine i_ix (hix (k := 2) hna (by decide)) (i_wI (i_rf (SM_f h (i := 3) (by decide)) (i_na (N := 0) rfl (by decide) ⟨by show 0 + 1 ≤ b.1; omega, by show 0 + 0 ≤ b.2; omega⟩ (fun x hx => ?_))))
    have hb2 : SGb P (yd_n (aAnt a (anPos c r (yd_a Y a)) Y)) := hb
    have h3 := SM_nw (r := 4000 + a) (k := 12) (n := 0) hb2 h2 hx
    refine i_ix (by rw [(SM_n h3).2.2.2.1]; exact zn_in ha (by show yd_n Y ≤ _; omega)) (i_sR ?_)
    obtain ⟨h4, kp⟩ := SM_reset hb2 h2 (i := a) ha hx
    rw [ya_at, aAnt_aAnt] at h4
    have hC2 := CL_kp h6 hC (Kp_tr (Kp_tr (Kp_wI (M := M) (j := 1) (v := zn c) (G := G) sia) (Kp_wI (j := 2) (v := zn r) (G := G) sia)) kp)
    have hA4 := SM_ar h4 (i := a) ha
    rw [ya_at] at hA4
    have e1 : mI (wZ (wI (wI M (sra S a) 1 (zn c)) (sra S a) 2 (zn r)) x) (sra S a) 1 = zn c := hA4.2.1
    have e2 : mI (wZ (wI (wI M (sra S a) 1 (zn c)) (sra S a) 2 (zn r)) x) (sra S a) 2 = zn r := hA4.2.2.1
    rw [e1, e2]
    have hn9 : gN (gSt (gNw G x 12 0) (sg S 3) a x) (sra S a) = 6 := (SM_a h3 (i := a) ha).2
    refine i_ix (hix (k := 1) hn9 (by decide)) (i_ix (hix (k := 2) hn9 (by decide)) ?_)
    refine i_cl (p_place hC2.1 hC2.2.1 hv hC2.2.2.2.2 ha hc hr0) (fun M5 y hy => ?_)
    obtain ⟨rfl, g1, g2⟩ := hy
    refine i_t rfl (i_ck (Or.inr rfl) (hk _ M5 (rU rl x (4000 + a)) (stP S a x) (aAnt a (anMove c r (yd_a Y a)) Y) (CL_ca hC2 g1) (SM_fr (Y' := aAnt a (anMove c r (yd_a Y a)) Y) hb hC2 h4 g2) (Or.inr (Or.inr (Or.inr (Or.inr (Or.inl ⟨a, c, r, ha, hc, hr0, rfl⟩)))))))
  · -- steps
    have key : ∀ z : Nat, 0 < z → z ≤ 60 → nb_L_act_378 D b (ad 0) o c2 post (uP (0, 0) (0, 0)) G M (1 : Int32) (c2 >>> ((4 : Int32) &&& 31)) (zn z) := by
      intro z z0 z1
      unfold nb_L_act_378
      refine i_ca0 uL0 (s_below (n := z) rfl z0 (by omega) ?_)
      have hm := Nat.mod_lt (bwN (c2 >>> ((4 : Int32) &&& 31))) z0
      generalize bwN (c2 >>> ((4 : Int32) &&& 31)) % z = mm at hm ⊢
      rw [show (1 : Int32) + zn mm = zn (1 + mm) from zn_add 1 mm]
      refine i_bd (i_ca0 uL0 (s_dark h hv.1 ?_))
      refine ⟨fun n u1 G1 M1 v5 v6 v7 => v5 = zn (1 + mm) ∧ v6 = zn (dk (yd_c Y)) ∧ ∃ k rl1 S1, n + k = 1 + mm ∧ v7 = zn k ∧ u1 = (105 * k, 9300 * k) ∧ Kp G M rl G1 M1 rl1 ∧ SM G1 M1 rl1 o S1 P q (aSteps P Y k), 1 + mm, ⟨rfl, rfl, 0, rl, S, rfl, rfl, rfl, Kp_rf, h⟩, ?_⟩
      rintro n u1 G1 M1 v5 v6 v7 ⟨rfl, rfl, k, rl1, S1, hkn, rfl, rfl, kp, h1⟩
      have hsv := aSteps_v hP hv hr k
      have hsn := aSteps_n (P := P) (Y := Y) k
      have hb1 : SGb P (yd_n (aSteps P Y k)) := by rw [hsn]; exact hb
      unfold nb_L_act_393
      by_cases e : k = 1 + mm
      · subst e
        have hC1 := CL_kp h6 hC kp
        refine i_t ((zn_le (by omega) (by omega)).mpr (Nat.le_refl _)) (i_cl (p_pass hC1.1 hC1.2.1 hv (by omega) hr hP hC1.2.2.2.2 (t := 1 + mm) (by omega) (by omega)) (fun M2 y hy => ?_))
        obtain ⟨rfl, g1, g2⟩ := hy
        have h2 := SM_fr hb1 hC1 h1 g2
        refine i_ca0 ⟨by show 105 * (1 + mm) ≤ b.1; omega, by show 9300 * (1 + mm) ≤ b.2; omega⟩ (s_dark h2 hsv.1.1 (i_t rfl (i_ck (Or.inr rfl) (hk G1 M2 rl1 S1 (aSteps P Y (1 + mm)) (CL_ca hC1 g1) h2 (Or.inr (Or.inr (Or.inr (Or.inr (Or.inr ⟨1 + mm, by omega, rfl⟩)))))))))
      · refine i_f (by rw [zn_le (by omega) (by omega)]; omega) ⟨(105, 9300), ⟨by show 105 * k + 105 ≤ b.1; omega, by show 9300 * k + 9300 ≤ b.2; omega⟩, s_go2 hb1 h1 hsv.1 (by omega) (by rw [hsn]; exact hn5) hos (by rw [aSteps_t]; omega) hsv.2 (by rw [hsn]; exact hP) (by rw [hsn]; exact hO) ⟨Nat.le_refl _, Nat.le_refl _⟩ (fun G2 M2 rl2 S2 kp2 se2 h2 => i_bd ⟨n - 1, by omega, rfl, rfl, k + 1, rl2, S2, by omega, zn_one k, ?_, Kp_tr kp kp2, h2⟩)⟩
        show (105 * k + 105, 9300 * k + 9300) = (105 * (k + 1), 9300 * (k + 1))
        rw [show 105 * k + 105 = 105 * (k + 1) by omega, show 9300 * k + 9300 = 9300 * (k + 1) by omega]
    refine i_ca0 uL0 (s_below (n := 3) rfl (by decide) (by decide) (i_if (fun _ => key 60 (by decide) (by decide)) (fun _ => key 9 (by decide) (by decide))))
end Act
