/-! the law's questions about each ant, after a step -/
def LT (G : gS) (rl : Nat → Nat) (tq sq : Nat) (tr : Nat → Nat) (n : Nat) : Prop := (tq ∈ gL G ∧ rl tq = 10000 ∧ gN G tq = n) ∧ (sq ∈ gL G ∧ rl sq = 10001 ∧ gN G sq = n) ∧ ∀ i, i < n → gP G tq i = some (tr i) ∧ tr i ∈ gL G ∧ rl (tr i) = 10100 + i ∧ gN G (tr i) = 9
def LV (M : mS) (sq : Nat) (tr : Nat → Nat) (Y : aY) : Prop := ∀ i, i < yd_n Y → (∀ w, w < 9 → mI M (tr i) w = anAns (yd_a Y i) w) ∧ mI M sq i = zn (yd_c Y (pl_ (yd_a Y i)))
theorem ns_big {rl : Nat → Nat} {x : Nat} (h : 10000 ≤ rl x) : ¬ Si rl x := fun z => by unfold Si at z; omega
section Ants
variable {G G' : gS} {M M' : mS} {rl rl' : Nat → Nat} {ad : Nat → Nat} {o : Nat} {S : sA} {P : aP} {q : Nat → Nat → Nat} {Y Y1 : aY} {T : Nat → Nat} {ea : Int32} {b u : uS} {tq sq n : Nat} {tr : Nat → Nat} {D : va_G} {post : gS → mS → Int32 → Prop}
theorem LT_kp (h : LT G rl tq sq tr n) (k : Kp G M rl G' M' rl') : LT G' rl' tq sq tr n := by
  obtain ⟨⟨a1, a2, a3⟩, ⟨b1, b2, b3⟩, c⟩ := h
  have ka := k tq a1
  have kb := k sq b1
  refine ⟨⟨ka.1, ka.2.2.2.1.trans a2, ka.2.2.1.trans a3⟩, ⟨kb.1, kb.2.2.2.1.trans b2, kb.2.2.1.trans b3⟩, fun i hi => ?_⟩
  obtain ⟨c1, c2, c3, c4⟩ := c i hi
  have kc := k (tr i) c2
  exact ⟨by rw [(ka.2.2.2.2 (ns_big (by omega))).1]; exact c1, kc.1, kc.2.2.2.1.trans c3, kc.2.2.1.trans c4⟩
theorem LV_cg (h : LT G rl tq sq tr (yd_n Y)) (hv : LV M sq tr Y) (hI : ∀ x, x ∈ gL G → 10000 ≤ rl x → mI M' x = mI M x) : LV M' sq tr Y := by
  obtain ⟨_, ⟨b1, b2, b3⟩, c⟩ := h
  intro i hi
  obtain ⟨_, c2, c3, _⟩ := c i hi
  obtain ⟨h1, h2⟩ := hv i hi
  exact ⟨fun w hw => by rw [hI _ c2 (by omega)]; exact h1 w hw, by rw [hI _ b1 (by omega)]; exact h2⟩
theorem LV_kp (h : LT G rl tq sq tr (yd_n Y)) (hv : LV M sq tr Y) (k : Kp G M rl G' M' rl') : LV M' sq tr Y := LV_cg h hv (fun x hx hr => ((k x hx).2.2.2.2 (ns_big hr)).2.1)
/-- all three: the class, the hand, what was told -/
def B3 (G : gS) (M : mS) (rl : Nat → Nat) (ad : Nat → Nat) (o : Nat) (S : sA) (P : aP) (q : Nat → Nat → Nat) (Y1 : aY) (T : Nat → Nat) (ea : Int32) (tq sq : Nat) (tr : Nat → Nat) (Y : aY) : Prop := CL G M rl ad Y1 P T 0 ea ∧ SM G M rl o S P q Y1 ∧ LT G rl tq sq tr (yd_n Y) ∧ LV M sq tr Y
theorem B3_fr (hb : SGb P (yd_n Y1)) (h : B3 G M rl ad o S P q Y1 T ea tq sq tr Y) (hc : CA ad M' Y1 P T 0 ea) (hF : Fr (Bk ad 0 66) M M') : B3 G M' rl ad o S P q Y1 T ea tq sq tr Y := ⟨CL_ca h.1 hc, SM_fr hb h.1 h.2.1 hF, h.2.2.1, LV_cg h.2.2.1 h.2.2.2 (fun x _ hr => Fr_r h.1 hF (by omega))⟩
theorem B3_ant (hb : SGb P (yd_n Y1)) (h : B3 G M rl ad o S P q Y1 T ea tq sq tr Y) (hv : vY 100000 Y1) {i w : Nat} (hi : i < yd_n Y1) (hw : w < 9) {c : Int32} (hc : c = zn w) {Q : mS → Int32 → Prop} (H : ∀ M', B3 G M' rl ad o S P q Y1 T ea tq sq tr Y → Q M' (anAns (yd_a Y1 i) w)) : p_cl (m_X9_ant G M (ad 0) (zn i) c) Q := by
  subst hc
  refine i_cl (p_ant h.1.1 h.1.2.1 hv (by decide) h.1.2.2.2.2 hi hw) (fun M3 r hr => ?_)
  obtain ⟨rfl, g1, g2⟩ := hr
  exact H M3 (B3_fr hb h g1 g2)
theorem B3_nw (hb : SGb P (yd_n Y1)) (h : B3 G M rl ad o S P q Y1 T ea tq sq tr Y) (h6 : yd_n Y1 ≤ 6) {x k m : Nat} (hx : x ∉ gL G) : B3 (gNw G x k m) (wZ M x) (rU rl x 0) ad o S P q Y1 T ea tq sq tr Y := ⟨CL_kp h6 h.1 (Kp_nw hx), SM_nw hb h.2.1 hx, LT_kp h.2.2.1 (Kp_nw (M := M) (k := k) (n := m) hx), LV_kp h.2.2.1 h.2.2.2 (Kp_nw (k := k) (n := m) (r := 0) hx)⟩
theorem B3_w (hb : SGb P (yd_n Y1)) (h : B3 G M rl ad o S P q Y1 T ea tq sq tr Y) (h6 : yd_n Y1 ≤ 6) {x j : Nat} {v : Int32} (hx : rl x = 0) (hxa : ∀ k, k < 66 → ad k ≠ x) : B3 G (wI M x j v) rl ad o S P q Y1 T ea tq sq tr Y := ⟨CL_w h6 h.1 hxa, SM_tw hb h.2.1 (fun z => by unfold Si at z; omega), h.2.2.1, LV_cg h.2.2.1 h.2.2.2 (fun y _ hy => mI_ne (rl_ne (rl := rl) (by omega)))⟩
theorem i_tl (h : LT G rl tq sq tr n) (hn : n ≤ 6) {i w : Nat} (hi : i < n) (hw : w < 9) {c : Int32} (hc : c = zn w) {k : Nat → Prop} (H : k (tr i)) : p_ix (zn i) (gN G tq) (p_rf (gP G tq (Int32.toNatClampNeg (zn i))) (fun x => p_ix c (gN G x) (k x))) := by
  subst hc
  obtain ⟨c1, c2, c3, c4⟩ := h.2.2 i hi
  rw [zn_nat (by omega)]
  exact i_ix (by rw [h.1.2.2]; exact zn_in hi (by omega)) (i_rf c1 (i_ix (by rw [c4]; exact zn_in hw (by decide)) H))
theorem i_tm (h : LT G rl tq sq tr n) (hn : n ≤ 6) {i w : Nat} (hi : i < n) (hw : w < 9) {c : Int32} (hc : c = zn w) {k : Nat → Prop} (H : k (tr i)) : p_ix (zn i) (gN G tq) (p_rf (gP G tq i) (fun x => p_ix c (gN G x) (k x))) := by
  subst hc
  obtain ⟨c1, c2, c3, c4⟩ := h.2.2 i hi
  exact i_ix (by rw [h.1.2.2]; exact zn_in hi (by omega)) (i_rf c1 (i_ix (by rw [c4]; exact zn_in hw (by decide)) H))
theorem bI_and {x y : Bool} : bI x &&& bI y = bI (x && y) := by cases x <;> cases y <;> decide
theorem n6_ : Int32.toNatClampNeg (6 : Int32) = 6 := by decide
theorem l_1005 (hb : SGb P (yd_n Y1)) (h6 : yd_n Y1 ≤ 6) (en : yd_n Y1 = yd_n Y) (hv : vY 100000 Y1) (h : B3 G M rl ad o S P q Y1 T ea tq sq tr Y) {i : Nat} (hi : i < yd_n Y) {kb45 : uS → gS → mS → Nat → Nat → Int32 → Int32 → Prop} {kb : uS → gS → mS → Nat → Nat → Int32 → Int32 → Nat → Nat → Int32 → Int32 → Prop} {v4 v5 v20 v23 : Int32} (hst : v20 = 0 → v23 = 1 → anP (yd_a Y1 i) = 1 → an_s (yd_a Y1 i) = an_s (yd_a Y i)) (hk : ∀ M', B3 G M' rl ad o S P q Y1 T ea tq sq tr Y → kb u G M' o (ad 0) v4 v5 tq sq v20 (zn (i + 1))) : nb_L_law_1005 D kb45 kb post u G M o (ad 0) v4 v5 tq sq v20 (zn i) v23 := by
  have hn6 : yd_n Y ≤ 6 := by omega
  have tv : ∀ {M2 : mS}, B3 G M2 rl ad o S P q Y1 T ea tq sq tr Y → ∀ {w : Nat}, w < 9 → mI M2 (tr i) w = anAns (yd_a Y i) w := fun {M2} h2 {w} hw => (h2.2.2.2 i hi).1 w hw
  have hfin : ∀ {M2 : mS}, B3 G M2 rl ad o S P q Y1 T ea tq sq tr Y → nb_L_law_1077 D kb45 kb post u G M2 o (ad 0) v4 v5 tq sq v20 (zn i) := fun h2 => by
    unfold nb_L_law_1077
    exact i_bde (zn_one i) (hk _ h2)
  have p1 : anP (yd_a Y1 i) ≤ 120 := anP_le
  have p0 : anP (yd_a Y i) ≤ 120 := anP_le
  unfold nb_L_law_1005
  rw [n6_, nat_3]
  refine i_tl h.2.2.1 hn6 hi (w := 6) (by decide) rfl ?_
  refine i_if (fun _ => hfin h) (fun _ => i_if (fun e20 => i_if (fun e23 => ?_) (fun _ => hfin h)) (fun _ => hfin h))
  refine B3_ant hb h hv (by omega) (w := 6) (by decide) rfl (fun M2 h2 => i_tl h2.2.2.1 hn6 hi (w := 6) (by decide) rfl ?_)
  rw [tv h2 (w := 6) (by decide)]
  refine i_if (fun k1 => ?_) (fun _ => hfin h2)
  refine i_tl h2.2.2.1 hn6 hi (w := 6) (by decide) rfl (i_if (fun k2 => ?_) (fun _ => hfin h2))
  rw [tv h2 (w := 6) (by decide)] at k2
  have e1 : anP (yd_a Y i) = 1 := (zn_inj (a := anP (yd_a Y i)) (b := 1) (by omega) (by decide)).mp k2
  have e2 : anP (yd_a Y1 i) = 1 := ((zn_inj (a := anP (yd_a Y1 i)) (b := anP (yd_a Y i)) (by omega) (by omega)).mp k1).trans e1
  have e3 := hst e20 e23 e2
  refine B3_ant hb h2 hv (by omega) (w := 3) (by decide) rfl (fun M3 h3 => i_tl h3.2.2.1 hn6 hi (w := 3) (by decide) rfl ?_)
  rw [tv h3 (w := 3) (by decide)]
  exact i_t (show zn (an_s (yd_a Y1 i)) = zn (an_s (yd_a Y i)) by rw [e3]) (hfin h3)
theorem tb_m : ∀ t : Nat, t < 4 → (if t = 3 then (2 : Int32) else if t = 2 then 0 else if t = 1 then 1 else if t = 0 then 3 else 0) = zn (tb t) := by decide
theorem l_934 (hb : SGb P (yd_n Y1)) (h6 : yd_n Y1 ≤ 6) (en : yd_n Y1 = yd_n Y) (hv : vY 100000 Y1) (hvY : vY 100000 Y) (hP : vP (yd_n Y1) P) (hr : vR P Y) (h : B3 G M rl ad o S P q Y1 T ea tq sq tr Y) {i : Nat} (hi : i < yd_n Y) {kb45 : uS → gS → mS → Nat → Nat → Int32 → Int32 → Prop} {kb : uS → gS → mS → Nat → Nat → Int32 → Int32 → Nat → Nat → Int32 → Int32 → Prop} {v4 v5 v20 v23 v25 : Int32} (hB : uL (uP u (1, 4)) bL) (hst : v20 = 0 → v23 = 1 → anP (yd_a Y1 i) = 1 → an_s (yd_a Y1 i) = an_s (yd_a Y i)) (hsd : ¬ v25 = 0 → an_s (yd_a Y1 i) = (an_s (yd_a Y i) + tb (pg_t P (an_r (yd_a Y i)) (yd_c Y (pl_ (yd_a Y i)) % pg_z P (an_r (yd_a Y i))))) % 4) (hk : ∀ G' M' rl', B3 G' M' rl' ad o S P q Y1 T ea tq sq tr Y → kb (uP u (1, 4)) G' M' o (ad 0) v4 v5 tq sq v20 (zn (i + 1))) : nb_L_law_934 D kb45 kb post u G M o (ad 0) v4 v5 tq sq v20 (zn i) v23 v25 := by
  have hn6 : yd_n Y ≤ 6 := by omega
  have hri := hr i hi
  have hc6 := hvY.1 (pl_ (yd_a Y i))
  have hs4 := (hvY.2.2 i hi).1.2.2.2.1
  have ht4 : pg_t P (an_r (yd_a Y i)) (yd_c Y (pl_ (yd_a Y i)) % pg_z P (an_r (yd_a Y i))) < 4 := hP.2.2.1 _ _
  unfold nb_L_law_934
  rw [nat_0, nat_1, nat_2, nat_3]
  refine i_tl h.2.2.1 hn6 hi (w := 0) (by decide) rfl (i_ix (by rw [h.2.2.1.2.1.2.2]; exact zn_in hi (by omega)) ?_)
  rw [zn_nat (by omega), (h.2.2.2 i hi).1 0 (by decide), (h.2.2.2 i hi).2]
  refine i_cls (p_turn h.1.2.1 hP h.1.2.2.2.2 hri hc6) (i_na (N := 4) rfl (by decide) hB (fun x hx => ?_))
  have h2 := B3_nw hb h h6 (k := 12) (m := 4) hx
  have hxa : ∀ k, k < 66 → ad k ≠ x := fun k hk2 => mem_ne (h.1.2.2.1 k hk2).1 hx
  have hxx : ∀ {k : Nat}, k < 4 → vp_in (zn k) (gN (gNw G x 12 4) x) := fun hk2 => by rw [gN_nw]; exact zn_in hk2 (by decide)
  have hw : ∀ {M2 : mS} {j : Nat} {v : Int32}, B3 (gNw G x 12 4) M2 (rU rl x 0) ad o S P q Y1 T ea tq sq tr Y → B3 (gNw G x 12 4) (wI M2 x j v) (rU rl x 0) ad o S P q Y1 T ea tq sq tr Y := fun hh => B3_w hb hh h6 rU_eq hxa
  refine i_ix (hxx (k := 0) (by decide)) (i_wI (i_ix (hxx (k := 1) (by decide)) (i_wI (i_ix (hxx (k := 2) (by decide)) (i_wI (i_ix (hxx (k := 3) (by decide)) (i_wI ?_)))))))
  have h3 := hw (j := 3) (v := 2) (hw (j := 2) (v := 0) (hw (j := 1) (v := 1) (hw (j := 0) (v := 3) h2)))
  have hv3 : ∀ t, t < 4 → mI (wI (wI (wI (wI (wZ M x) x 0 3) x 1 1) x 2 0) x 3 2) x t = zn (tb t) := fun t ht => by
    rw [mI_eq, mI_eq, mI_eq, mI_eq, ← tb_m t ht, wZ_eq]
  generalize wI (wI (wI (wI (wZ M x) x 0 3) x 1 1) x 2 0) x 3 2 = M3 at h3 hv3 ⊢
  refine i_if (fun _ => l_1005 hb h6 en hv h3 hi hst (fun M4 h4 => hk _ M4 _ h4)) (fun k25 => ?_)
  have hse := hsd k25
  have xns : (rU rl x 0) x = 0 := rU_eq
  have hI4 : ∀ {M4 : mS}, Fr (Bk ad 0 66) M3 M4 → mI M4 x = mI M3 x := fun hF => hF.1 x (fun hB2 => by
    obtain ⟨k, _, k2, e⟩ := hB2
    exact hxa k k2 e.symm)
  refine i_cl (p_ant h3.1.1 h3.1.2.1 hv (by decide) h3.1.2.2.2.2 (i := i) (w := 3) (by omega) (by decide)) (fun M4 r hr4 => ?_)
  obtain ⟨rfl, g1, g2⟩ := hr4
  have h4 := B3_fr hb h3 g1 g2
  have e4 := hI4 g2
  have hr6 : zn (pg_t P (an_r (yd_a Y i)) (yd_c Y (pl_ (yd_a Y i)) % pg_z P (an_r (yd_a Y i)))) = zn (pg_t P (an_r (yd_a Y i)) (yd_c Y (pl_ (yd_a Y i)) % pg_z P (an_r (yd_a Y i)))) := rfl
  refine i_tm h4.2.2.1 hn6 hi (w := 3) (by decide) rfl (i_ix (by rw [gN_nw]; exact zn_in ht4 (by decide)) (i_ck (by decide) ?_))
  rw [(h4.2.2.2 i hi).1 3 (by decide), zn_nat (a := pg_t P (an_r (yd_a Y i)) (yd_c Y (pl_ (yd_a Y i)) % pg_z P (an_r (yd_a Y i)))) (by omega), e4, hv3 _ ht4]
  have tb4 : tb (pg_t P (an_r (yd_a Y i)) (yd_c Y (pl_ (yd_a Y i)) % pg_z P (an_r (yd_a Y i)))) < 4 := by unfold tb; split <;> (try split) <;> (try split) <;> decide
  refine i_t ?_ (l_1005 hb h6 en hv h4 hi hst (fun M5 h5 => hk _ M5 _ h5))
  show zn (an_s (yd_a Y1 i)) = zn (an_s (yd_a Y i)) + zn (tb _) - (zn (an_s (yd_a Y i)) + zn (tb _)) / (4 : Int32) * (4 : Int32)
  rw [zn_add, show (4 : Int32) = zn 4 from rfl, zn_mod (by omega) (by decide), hse]
theorem l_814 (hb : SGb P (yd_n Y1)) (h6 : yd_n Y1 ≤ 6) (en : yd_n Y1 = yd_n Y) (hv : vY 100000 Y1) (hvY : vY 100000 Y) (hP : vP (yd_n Y1) P) (hr : vR P Y) (h : B3 G M rl ad o S P q Y1 T ea tq sq tr Y) {i : Nat} (hi : i < yd_n Y) {kb45 : uS → gS → mS → Nat → Nat → Int32 → Int32 → Prop} {kb : uS → gS → mS → Nat → Nat → Int32 → Int32 → Nat → Nat → Int32 → Int32 → Prop} {v5 v20 v23 : Int32} {a0 : Bool} (hB : uL (uP u (1, 4)) bL) (hst : v20 = 0 → v23 = 1 → anP (yd_a Y1 i) = 1 → an_s (yd_a Y1 i) = an_s (yd_a Y i)) (hal : a0 = true → alB Y i (yd_n Y) = true → an_s (yd_a Y1 i) = (an_s (yd_a Y i) + tb (pg_t P (an_r (yd_a Y i)) (yd_c Y (pl_ (yd_a Y i)) % pg_z P (an_r (yd_a Y i))))) % 4 ∧ yd_c Y1 (pl_ (yd_a Y i)) = (yd_c Y (pl_ (yd_a Y i)) + 1) % pg_z P (an_r (yd_a Y i))) (hk : ∀ G' M' rl', B3 G' M' rl' ad o S P q Y1 T ea tq sq tr Y → kb (uP u (1, 4)) G' M' o (ad 0) (zn (yd_n Y)) v5 tq sq v20 (zn (i + 1))) : nl_L_law_814 D kb45 kb post u G M o (ad 0) (zn (yd_n Y)) v5 tq sq v20 (zn i) v23 (bI a0) (0 : Int32) := by
  have hn6 : yd_n Y ≤ 6 := by omega
  have hri := hr i hi
  have hz := hP.2.1 _ hri
  have hvi := (hvY.2.2 i hi).1
  have hpr : pg_r P ≤ 5 := hP.1
  refine ⟨fun m u2 G2 M2 w2 w3 w4 w5 w12 w13 w20 w21 w23 w25 w26 => u2 = u ∧ G2 = G ∧ M2 = M ∧ w2 = o ∧ w3 = ad 0 ∧ w4 = zn (yd_n Y) ∧ w5 = v5 ∧ w12 = tq ∧ w13 = sq ∧ w20 = v20 ∧ w21 = zn i ∧ w23 = v23 ∧ ∃ j, m + j = yd_n Y ∧ w26 = zn j ∧ w25 = bI (a0 && alB Y i j), yd_n Y, ⟨rfl, rfl, rfl, rfl, rfl, rfl, rfl, rfl, rfl, rfl, rfl, rfl, 0, rfl, rfl, by unfold alB; rw [Bool.and_true]⟩, ?_⟩
  rintro m u2 G2 M2 w2 w3 w4 w5 w12 w13 w20 w21 w23 w25 w26 ⟨rfl, rfl, rfl, rfl, rfl, rfl, rfl, rfl, rfl, rfl, rfl, rfl, j, hj, rfl, rfl⟩
  unfold nb_L_law_814
  by_cases e : j = yd_n Y
  · subst e
    refine i_t ((zn_le (by omega) (by omega)).mpr (Nat.le_refl _)) (i_rf (SM_f h.2.1 (i := 0) (by decide)) (i_tl h.2.2.1 hn6 hi (w := 0) (by decide) rfl ?_))
    rw [nat_0, nat_1, nat_2, (h.2.2.2 i hi).1 0 (by decide)]
    refine i_ix (by rw [(SM_n h.2.1).1]; exact zn_in hri (by omega)) ?_
    rw [show Int32.toNatClampNeg (anAns (yd_a Y i) 0) = an_r (yd_a Y i) from zn_nat (by omega)]
    refine i_rf (SM_r h.2.1 hri).1 (i_bd ?_)
    rw [(SM_r h.2.1 hri).2]
    have hL : ∀ {v25 : Int32}, (¬ v25 = 0 → an_s (yd_a Y1 i) = (an_s (yd_a Y i) + tb (pg_t P (an_r (yd_a Y i)) (yd_c Y (pl_ (yd_a Y i)) % pg_z P (an_r (yd_a Y i))))) % 4) → nb_L_law_934 D kb45 kb post u2 G2 M2 w2 (ad 0) (zn (yd_n Y)) w5 w12 w13 w20 (zn i) w23 v25 := fun hs => l_934 hb h6 en hv hvY hP hr h hi hB hst hs hk
    refine i_if (fun k => hL (fun z => absurd k z)) (fun k => ?_)
    have hab : (a0 && alB Y i (yd_n Y)) = true := by
      cases z : (a0 && alB Y i (yd_n Y)) with
      | true => rfl
      | false => exact absurd (bI_f z) k
    rw [Bool.and_eq_true] at hab
    obtain ⟨f1, f2⟩ := hal hab.1 hab.2
    refine i_tl h.2.2.1 hn6 hi (w := 1) (by decide) rfl (i_tl h.2.2.1 hn6 hi (w := 2) (by decide) rfl ?_)
    rw [(h.2.2.2 i hi).1 1 (by decide), (h.2.2.2 i hi).1 2 (by decide)]
    refine i_cls (p_stone h.1.2.1 h.1.2.2.2.2 hvi.2.1 hvi.2.2.1) (i_ix (by rw [h.2.2.1.2.1.2.2]; exact zn_in hi (by omega)) ?_)
    have hnz : ¬ Int32.ofNat (pg_z P (an_r (yd_a Y i))) = 0 := fun z => by
      have := (zn_inj (a := pg_z P (an_r (yd_a Y i))) (b := 0) (by omega) (by decide)).mp z
      omega
    rw [zn_nat (a := i) (by omega), (h.2.2.2 i hi).2]
    refine i_ck hnz (i_ck hnz (i_t ?_ (hL (fun _ => f1))))
    have hc6 := hvY.1 (pl_ (yd_a Y i))
    have e1 : zn (yd_c Y (pl_ (yd_a Y i))) - zn (yd_c Y (pl_ (yd_a Y i))) / Int32.ofNat (pg_z P (an_r (yd_a Y i))) * Int32.ofNat (pg_z P (an_r (yd_a Y i))) = zn (yd_c Y (pl_ (yd_a Y i)) % pg_z P (an_r (yd_a Y i))) := zn_mod (by omega) (by omega)
    have hm := Nat.mod_le (yd_c Y (pl_ (yd_a Y i))) (pg_z P (an_r (yd_a Y i)))
    rw [e1, show zn (yd_c Y (pl_ (yd_a Y i)) % pg_z P (an_r (yd_a Y i))) + (1 : Int32) = zn (yd_c Y (pl_ (yd_a Y i)) % pg_z P (an_r (yd_a Y i)) + 1) from zn_one _]
    rw [show zn (yd_c Y (pl_ (yd_a Y i)) % pg_z P (an_r (yd_a Y i)) + 1) - zn (yd_c Y (pl_ (yd_a Y i)) % pg_z P (an_r (yd_a Y i)) + 1) / Int32.ofNat (pg_z P (an_r (yd_a Y i))) * Int32.ofNat (pg_z P (an_r (yd_a Y i))) = zn ((yd_c Y (pl_ (yd_a Y i)) % pg_z P (an_r (yd_a Y i)) + 1) % pg_z P (an_r (yd_a Y i))) from zn_mod (by omega) (by omega), Nat.mod_add_mod]
    show zn (yd_c Y1 (pl_ (yd_a Y i))) = _
    rw [f2]
  · have hj2 : j < yd_n Y := by omega
    have hvj := (hvY.2.2 j hj2).1
    have hst2 : alB Y i (j + 1) = (alB Y i j && (j == i || pl_ (yd_a Y j) != pl_ (yd_a Y i))) := rfl
    have next : ∀ v : Bool, (j == i || pl_ (yd_a Y j) != pl_ (yd_a Y i)) = v → nb_L_law_869 D kb45 kb (fun y1 y2 y3 y4 y5 y6 y7 y8 y9 y10 y11 y12 y13 y14 => ∃ k, k < m ∧ (y1 = u2 ∧ y2 = G2 ∧ y3 = M2 ∧ y4 = w2 ∧ y5 = ad 0 ∧ y6 = zn (yd_n Y) ∧ y7 = w5 ∧ y8 = w12 ∧ y9 = w13 ∧ y10 = w20 ∧ y11 = zn i ∧ y12 = w23 ∧ ∃ j, k + j = yd_n Y ∧ y14 = zn j ∧ y13 = bI (a0 && alB Y i j))) post u2 G2 M2 w2 (ad 0) (zn (yd_n Y)) w5 w12 w13 w20 (zn i) w23 (zn j) (bI (a0 && alB Y i j)) (bI v) := by
      intro v ev
      refine i_bd (i_bd ⟨m - 1, by omega, rfl, rfl, rfl, rfl, rfl, rfl, rfl, rfl, rfl, rfl, rfl, rfl, j + 1, by omega, zn_one j, ?_⟩)
      rw [bI_and, hst2, ev, Bool.and_assoc]
    have hx1 := hvi.2.1
    have hy1 := hvi.2.2.1
    have hx2 := hvj.2.1
    have hy2 := hvj.2.2.1
    refine i_f (by rw [zn_le (by omega) (by omega)]; omega) (i_if (fun k => ?_) (fun k => ?_))
    · have e1 := (zn_inj (by omega) (by omega)).mp k
      exact next true (by rw [beq_iff_eq.mpr e1, Bool.true_or])
    · have e1 : ¬ j = i := fun z => k (by rw [z])
      have e2 : (j == i) = false := beq_eq_false_iff_ne.mpr e1
      refine i_tl h.2.2.1 hn6 hj2 (w := 1) (by decide) rfl (i_tl h.2.2.1 hn6 hi (w := 1) (by decide) rfl ?_)
      rw [nat_1, nat_2, (h.2.2.2 i hi).1 1 (by decide), (h.2.2.2 j hj2).1 1 (by decide)]
      refine i_if (fun k2 => ?_) (fun k2 => ?_)
      · have e3 : an_x (yd_a Y j) = an_x (yd_a Y i) := (zn_inj (by omega) (by omega)).mp k2
        refine i_tl h.2.2.1 hn6 hj2 (w := 2) (by decide) rfl (i_tl h.2.2.1 hn6 hi (w := 2) (by decide) rfl ?_)
        rw [(h.2.2.2 i hi).1 2 (by decide), (h.2.2.2 j hj2).1 2 (by decide)]
        refine i_if (fun k3 => ?_) (fun k3 => ?_)
        · have e4 : an_y (yd_a Y j) = an_y (yd_a Y i) := (zn_inj (by omega) (by omega)).mp k3
          exact next false (by rw [e2, Bool.false_or, bne_eq_false_iff_eq]; exact (pl_eq hvj hvi).mpr ⟨e3, e4⟩)
        · exact next true (by rw [e2, Bool.false_or, bne_iff_ne]; exact fun z => k3 (show zn (an_y (yd_a Y j)) = zn (an_y (yd_a Y i)) by rw [((pl_eq hvj hvi).mp z).2]))
      · exact next true (by rw [e2, Bool.false_or, bne_iff_ne]; exact fun z => k2 (show zn (an_x (yd_a Y j)) = zn (an_x (yd_a Y i)) by rw [((pl_eq hvj hvi).mp z).1]))
end Ants
