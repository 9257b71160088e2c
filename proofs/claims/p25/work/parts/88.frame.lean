/-! the class and the hand side by side -/
section ShKeep
variable {G G' : gS} {ad : Nat → Nat}
theorem PSh_kp {p : Nat} (h : PSh G ad p) (hP : ∀ k, p ≤ k → k < p + 9 → gP G' (ad k) = gP G (ad k)) (hN : ∀ k, p ≤ k → k < p + 9 → gN G' (ad k) = gN G (ad k)) : PSh G' ad p := by
  unfold PSh
  rw [hP p (by omega) (by omega), hN (p + 1) (by omega) (by omega), hN (p + 2) (by omega) (by omega), hN (p + 3) (by omega) (by omega), hN (p + 4) (by omega) (by omega), hN (p + 5) (by omega) (by omega), hN (p + 6) (by omega) (by omega), hN (p + 7) (by omega) (by omega), hN (p + 8) (by omega) (by omega)]
  exact h
theorem YSh_kp {y : Nat} (h : YSh G ad y) (hP : ∀ k, y ≤ k → k < y + 17 → gP G' (ad k) = gP G (ad k)) (hN : ∀ k, y ≤ k → k < y + 17 → gN G' (ad k) = gN G (ad k)) : YSh G' ad y := by
  obtain ⟨a1, a2, a3, a4, a5, a6, a7, a8, a9, a10⟩ := h
  unfold YSh ASh
  rw [hP y (by omega) (by omega), hP (y + 4) (by omega) (by omega), hN (y + 1) (by omega) (by omega), hN (y + 2) (by omega) (by omega), hN (y + 3) (by omega) (by omega), hN (y + 4) (by omega) (by omega)]
  refine ⟨a1, a2, a3, a4, a5, a6, a7, a8, a9, fun i hi => ?_⟩
  rw [hP (y + 5 + 2 * i) (by omega) (by omega), hN (y + 5 + 2 * i + 1) (by omega) (by omega)]
  exact a10 i hi
theorem Sh_kp (h : Sh G ad) (hP : ∀ k, k < 66 → gP G' (ad k) = gP G (ad k)) (hN : ∀ k, k < 66 → gN G' (ad k) = gN G (ad k)) : Sh G' ad := by
  have t : TSh G' ad := by
    unfold TSh
    rw [hP 63 (by decide)]
    exact sh_T h
  have r : RSh G' ad 64 := by
    unfold RSh
    rw [hP 64 (by decide), hN (64 + 1) (by decide)]
    exact sh_R h
  have p1 : PSh G' ad 3 := PSh_kp (sh_P3 h) (fun k _ k2 => hP k (by omega)) (fun k _ k2 => hN k (by omega))
  have p2 : PSh G' ad 12 := PSh_kp (sh_P12 h) (fun k _ k2 => hP k (by omega)) (fun k _ k2 => hN k (by omega))
  have y1 : YSh G' ad 21 := YSh_kp (sh_Y21 h) (fun k _ k2 => hP k (by omega)) (fun k _ k2 => hN k (by omega))
  have y2 : YSh G' ad 38 := YSh_kp (sh_Y38 h) (fun k _ k2 => hP k (by omega)) (fun k _ k2 => hN k (by omega))
  unfold Sh
  rw [hP 0 (by decide), hP 1 (by decide), hP 55 (by decide), hP 58 (by decide), hN 2 (by decide), hN 56 (by decide), hN 57 (by decide), hN 59 (by decide), hN 60 (by decide), hN 61 (by decide), hN 62 (by decide)]
  exact ⟨sh_x0 h, sh_x1 h, sh_x2 h, sh_x3 h, sh_x4 h, sh_x5 h, sh_t0 h, sh_tn h, p1, p2, y1, y2, t, r, sh_q0 h, sh_q1 h, sh_q2 h, sh_q3 h, sh_q4 h, sh_qn3 h, sh_qn4 h, sh_k0 h, sh_k1 h, sh_k2 h, sh_k3 h, sh_k4 h, sh_kn1 h, sh_kn2 h, sh_kn3 h, sh_kn4 h⟩
end ShKeep
/-- the class: its things have role 0 -/
def CL (G : gS) (M : mS) (rl : Nat → Nat) (ad : Nat → Nat) (Y : aY) (P : aP) (T : Nat → Nat) (tl : Nat) (ea : Int32) : Prop := Inj ad ∧ Sh G ad ∧ (∀ k, k < 66 → ad k ∈ gL G ∧ rl (ad k) = 0) ∧ AK G ad ∧ CA ad M Y P T tl ea
section Both
variable {G G' : gS} {M M' : mS} {rl rl' : Nat → Nat} {ad : Nat → Nat} {o : Nat} {S : sA} {P P' : aP} {q : Nat → Nat → Nat} {Y Y' : aY} {T T' : Nat → Nat} {tl tl' : Nat} {ea ea' : Int32} {b : uS}
theorem CL_ns (h : CL G M rl ad Y P T tl ea) {k : Nat} (hk : k < 66) : ¬ Si rl (ad k) := fun z => by
  have := (h.2.2.1 k hk).2
  unfold Si at z
  omega
theorem CL_kp (hn : yd_n Y ≤ 6) (h : CL G M rl ad Y P T tl ea) (hk : Kp G M rl G' M' rl') : CL G' M' rl' ad Y P T tl ea := by
  have hx : ∀ k, k < 66 → _ := fun k hk2 => hk (ad k) (h.2.2.1 k hk2).1
  have hz : ∀ k, k < 66 → gP G' (ad k) = gP G (ad k) ∧ mI M' (ad k) = mI M (ad k) ∧ mJ M' (ad k) = mJ M (ad k) := fun k hk2 => (hx k hk2).2.2.2.2 (CL_ns h hk2)
  refine ⟨h.1, Sh_kp h.2.1 (fun k hk2 => (hz k hk2).1) (fun k hk2 => (hx k hk2).2.2.1), fun k hk2 => ⟨(hx k hk2).1, (hx k hk2).2.2.2.1.trans (h.2.2.1 k hk2).2⟩, fun i hi => ?_, CA_keep hn h.2.2.2.2 (fun k hk2 => (hz k (by omega)).2.1) (hz 59 (by decide)).2.2⟩
  obtain ⟨a1, a2⟩ := h.2.2.2.1 i hi
  have := hx (38 + 5 + 2 * i) (by omega)
  exact ⟨this.1, this.2.1.trans a2⟩
theorem CL_ca (h : CL G M rl ad Y P T tl ea) (hc : CA ad M' Y' P' T' tl' ea') : CL G M' rl ad Y' P' T' tl' ea' := ⟨h.1, h.2.1, h.2.2.1, h.2.2.2.1, hc⟩
theorem SM_fr (hb : SGb P (yd_n Y')) (hC : CL G M rl ad Y P' T tl ea) (h : SM G M rl o S P q Y') (hF : Fr (Bk ad 0 66) M M') : SM G M' rl o S P q Y' := SM_cg hb h GK_rf (fun x _ hs => hF.1 x (fun hB => by
  obtain ⟨k, _, k2, rfl⟩ := hB
  exact CL_ns hC k2 hs))
theorem Fr_r (hC : CL G M rl ad Y P T tl ea) (hF : Fr (Bk ad 0 66) M M') {x : Nat} (hx : rl x ≠ 0) : mI M' x = mI M x := hF.1 x (fun hB => by
  obtain ⟨k, _, k2, rfl⟩ := hB
  exact hx (hC.2.2.1 k k2).2)
theorem SM_tw (hb : SGb P (yd_n Y)) (h : SM G M rl o S P q Y) {x j : Nat} {v : Int32} (hx : ¬ Si rl x) : SM G (wI M x j v) rl o S P q Y := SM_cg hb h GK_rf (fun y _ hs => mI_ne (fun e => hx (e ▸ hs)))
theorem CL_w (hn : yd_n Y ≤ 6) (h : CL G M rl ad Y P T tl ea) {x j : Nat} {v : Int32} (hx : ∀ k, k < 66 → ad k ≠ x) : CL G (wI M x j v) rl ad Y P T tl ea := CL_ca h (CA_keep hn h.2.2.2.2 (fun k hk => mI_ne (hx k (by omega))) rfl)
theorem i_cls {β : Type} {x : Option (mS × β)} {M : mS} {v : β} {k : mS → β → Prop} (e : x = some (M, v)) (H : k M v) : p_cl x k := ⟨M, v, e, H⟩
theorem p_eq {post : gS → mS → Int32 → Prop} {v w : Int32} (h : v = w) (H : post G M w) : post G M v := by subst h; exact H
/-- what is counted -/
def cntS (Y : aY) (P : aP) (w : Nat) : Nat := if w = 0 then yd_t Y else if w = 1 then pg_r P else if w = 2 then yd_n Y else if w = 3 then pg_o P else if w = 10 then 0 else aTot Y w
theorem cntV_S {w : Nat} : cntV Y P 0 w = zn (cntS Y P w) := by
  unfold cntV cntS
  split
  · rfl
  · split
    · rfl
    · split
      · rfl
      · split
        · rfl
        · split <;> rfl
theorem sm_tot {c : Nat → Nat} : ∀ k : Nat, sm c 0 k = totC c k := by
  intro k
  induction k with
  | zero => rfl
  | succ k ih =>
    show sm c 0 k + c (0 + k) = totC c k + c k
    rw [ih, Nat.zero_add]
theorem sm_csum {c : Nat → Nat} (hv : ∀ p, c p < 6) : sm c 0 4096 = csum c 6 := (sm_tot 4096).trans (tot_csum hv)
theorem s_counted (hb : SGb P (yd_n Y)) (h : SM G M rl o S P q Y) (hv : vY 100000 Y) {w : Nat} (hw : w < 11) {post : gS → mS → Int32 → Prop} (hB : uL (1, 11) b) (hk : ∀ G' M' rl', Kp G M rl G' M' rl' → SM G' M' rl' o S P q Y → post G' M' (zn (cntS Y P w))) : n_X10_counted b G M o (zn w) post := by
  have h6 := hv.2.1
  unfold n_X10_counted
  refine i_rf (SM_f h (i := 2) (by decide)) (i_bd ?_)
  rw [(SM_n h).2.2.1]
  refine ⟨fun n u G1 M1 v2 v3 v4 v5 => u = (0, 0) ∧ G1 = G ∧ M1 = M ∧ v3 = sg S 2 ∧ v4 = zn (yd_n Y) ∧ ∃ i, n + i = yd_n Y ∧ v5 = zn i ∧ v2 = zn (wkA (yd_a Y) i), yd_n Y, ⟨rfl, rfl, rfl, rfl, rfl, 0, rfl, rfl, rfl⟩, ?_⟩
  rintro n u G1 M1 v2 v3 v4 v5 ⟨rfl, rfl, rfl, rfl, rfl, i, hi, rfl, rfl⟩
  unfold nb_X10_counted_14
  by_cases e : i = yd_n Y
  · subst e
    refine i_t ((zn_le (by omega) (by omega)).mpr (Nat.le_refl _)) (i_na (N := 11) rfl (by decide) (by exact hB) (fun x hx => ?_))
    have h2 := SM_nw (r := 0) (k := 12) (n := 11) hb h hx
    have nx : ¬ Si (rU rl x 0) x := fun z => by unfold Si at z; rw [rU_eq] at z; omega
    have nox : o ≠ x := mem_ne (SM_io h).1 hx
    have hw2 : ∀ {M' : mS}, SM (gNw G1 x 12 11) M' (rU rl x 0) o S P q Y → ∀ {j : Nat} {v : Int32}, SM (gNw G1 x 12 11) (wI M' x j v) (rU rl x 0) o S P q Y := fun hh => SM_tw hb hh nx
    have hi : ∀ {k : Nat}, k < 11 → vp_in (zn k) (gN (gNw G1 x 12 11) x) := fun hk => by rw [gN_nw]; exact zn_in hk (by decide)
    have ub : uL (uP (0, 0) (1, 11)) b := hB
    have hmo : ∀ {M' : mS} {j k : Nat} {v : Int32}, mI (wI M' x j v) o k = mI M' o k := fun {M' j k v} => by rw [mI_ne nox]
    have hww : ∀ {k : Nat}, vp_in (zn w) (gN (gNw G1 x 12 11) x) := fun {k} => hi hw
    refine i_ix (hi (k := 0) (by decide)) (i_wI (i_rf (SM_f h2 (i := 0) (by decide)) (i_ix (hi (k := 1) (by decide)) (i_wI (i_rf (SM_f h2 (i := 2) (by decide)) (i_ix (hi (k := 2) (by decide)) (i_wI (i_rf (SM_f h2 (i := 4) (by decide)) (i_ix (hi (k := 3) (by decide)) (i_wI ?_))))))))))
    refine i_ca0 ub (s_dark (hw2 (hw2 (hw2 (hw2 h2)))) hv.1 (i_ix (hi (k := 4) (by decide)) (i_wI ?_)))
    refine i_ca0 ub (s_sum (hw2 (hw2 (hw2 (hw2 (hw2 h2))))) hv.1 (i_ix (hi (k := 5) (by decide)) (i_wI ?_)))
    refine i_ix (hi (k := 6) (by decide)) (i_wI (i_ix (hi (k := 7) (by decide)) (i_wI (i_ix (hi (k := 8) (by decide)) (i_wI ?_)))))
    refine i_ix (hi (k := 9) (by decide)) (i_wI (i_ix (hi (k := 10) (by decide)) (i_wI (i_ix (hi hw) ?_))))
    refine p_eq ?_ (hk _ _ (rU rl x 0) (Kp_wIn (Kp_wIn (Kp_wIn (Kp_wIn (Kp_wIn (Kp_wIn (Kp_wIn (Kp_wIn (Kp_wIn (Kp_wIn (Kp_wIn (Kp_nw hx) hx) hx) hx) hx) hx) hx) hx) hx) hx) hx) hx) (hw2 (hw2 (hw2 (hw2 (hw2 (hw2 (hw2 (hw2 (hw2 (hw2 (hw2 h2))))))))))))
    rw [zn_nat (by omega)]
    have ho := h2.2.1
    have n6 : Int32.toNatClampNeg (6 : Int32) = 6 := by decide
    have n7 : Int32.toNatClampNeg (7 : Int32) = 7 := by decide
    have n8 : Int32.toNatClampNeg (8 : Int32) = 8 := by decide
    have n9 : Int32.toNatClampNeg (9 : Int32) = 9 := by decide
    have n10 : Int32.toNatClampNeg (10 : Int32) = 10 := by decide
    simp only [hmo, mI_eq, nat_0, nat_1, nat_2, nat_3, nat_4, nat_5, n6, n7, n8, n9, n10]
    match w, hw with
    | 0, _ => exact ho.1
    | 1, _ => exact congrArg zn (SM_n h2).1
    | 2, _ => exact congrArg zn (SM_n h2).2.2.1
    | 3, _ => exact congrArg zn (SM_n h2).2.2.2.2
    | 4, _ => exact rfl
    | 5, _ => exact congrArg zn (sm_csum hv.1)
    | 6, _ => exact rfl
    | 7, _ => exact ho.2.1
    | 8, _ => exact ho.2.2.1
    | 9, _ => exact ho.2.2.2
    | 10, _ => exact rfl
  · have hi2 : i < yd_n Y := by omega
    obtain ⟨hqa, hna⟩ := SM_a h hi2
    refine i_f (by rw [zn_le (by omega) (by omega)]; omega) (i_ix (by rw [(SM_n h).2.2.1]; exact zn_in hi2 (by omega)) ?_)
    rw [zn_nat (by omega)]
    refine i_rf hqa (i_ix (by rw [hna]; exact vi_4 (by decide) (by decide)) (i_bd (i_bd ?_)))
    rw [nat_4, (SM_ar h hi2).2.2.2.2.1]
    exact ⟨n - 1, by omega, rfl, rfl, rfl, rfl, rfl, i + 1, by omega, zn_one i, zn_add _ _⟩
end Both
