/-! the yard by hand: rows are washed, orders carried out -/
theorem i_na {b u : uS} {G : gS} {M : mS} {i : Nat} {n : Int32} {k : Nat → uS → gS → mS → Prop} {N : Nat} (hn : n = zn N) (hN : N ≤ 67108864) (hu : uL (uP u (1, N)) b) (H : ∀ q, q ∉ gL G → k q (uP u (1, N)) (gNw G q i N) (wZ M q)) : q_na b u G M i n k := by
  subst hn
  have e : (zn N).toNatClampNeg = N := zn_nat (by omega)
  unfold q_na
  rw [e]
  exact ⟨⟨zn_nn (by omega), hN⟩, hu, H⟩
theorem mI_ne {M : mS} {x a j : Nat} {v : Int32} (h : x ≠ a) : mI (wI M a j v) x = mI M x := by rw [mI_wI, if_neg h]
theorem mI_eq {M : mS} {a j k : Nat} {v : Int32} : mI (wI M a j v) a k = if k = j then v else mI M a k := by rw [mI_wI, if_pos rfl]; rfl
theorem rl_ne {rl : Nat → Nat} {x a : Nat} (h : rl x ≠ rl a) : x ≠ a := fun e => h (by rw [e])
theorem wZ_ne {M : mS} {x q : Nat} (h : x ≠ q) : mI (wZ M q) x = mI M x := up_ne h
theorem wZ_eq {M : mS} {q k : Nat} : mI (wZ M q) q k = 0 := congrFun (up_eq (f := mI M) (k := q) (v := fun _ => (0 : Int32))) k
theorem gN_nw {G : gS} {q k n : Nat} : gN (gNw G q k n) q = n := up_eq
theorem gK_nw {G : gS} {q k n : Nat} : gK (gNw G q k n) q = k := up_eq
theorem gL_nw {G : gS} {q k n : Nat} : q ∈ gL (gNw G q k n) := List.mem_append_right _ (List.mem_singleton.mpr rfl)
def wY (f j : Nat) (Y : aY) : aY := (cWash (yd_c Y) (64 * f) (64 * j), yd_n Y, yd_a Y, yd_t Y, yd_m Y, yd_w Y, yd_k Y)
theorem wY_0 {f : Nat} {Y : aY} : wY f 0 Y = Y := by
  have hc : cWash (yd_c Y) (64 * f) (64 * 0) = yd_c Y := by
    funext x
    unfold cWash
    rw [if_neg (by omega)]
  show (cWash (yd_c Y) (64 * f) (64 * 0), yd_n Y, yd_a Y, yd_t Y, yd_m Y, yd_w Y, yd_k Y) = Y
  rw [hc]
theorem aAnt_aAnt {i : Nat} {A B : aA} {Y : aY} : aAnt i A (aAnt i B Y) = aAnt i A Y := by
  have e : (fun k => if k = i then A else yd_a (aAnt i B Y) k) = fun k => if k = i then A else yd_a Y k := by
    funext k
    by_cases h : k = i
    · rw [if_pos h, if_pos h]
    · rw [if_neg h, if_neg h]
      show (if k = i then B else yd_a Y k) = yd_a Y k
      rw [if_neg h]
  show (yd_c Y, yd_n Y, (fun k => if k = i then A else yd_a (aAnt i B Y) k), yd_t Y, yd_m Y, yd_w Y, yd_k Y) = _
  rw [e]
  rfl
section SimDo
variable {G : gS} {M : mS} {rl : Nat → Nat} {o : Nat} {S : sA} {P : aP} {q : Nat → Nat → Nat} {Y : aY} {b : uS} {bb : Nat}
theorem SM_io (h : SM G M rl o S P q Y) : o ∈ gL G ∧ Si rl o ∧ rl o = 1 := ⟨h.1.1.1.1, SGo_s h.1.1, h.1.1.1.2.2⟩
/-- a number of its own is written -/
theorem SM_ow (hb : SGb P (yd_n Y)) (h : SM G M rl o S P q Y) {Y' : aY} {j : Nat} {v : Int32} (e1 : yd_c Y' = yd_c Y) (e2 : yd_n Y' = yd_n Y) (e3 : yd_a Y' = yd_a Y) (ho : SMo (wI M o j v) o Y') : SM G (wI M o j v) rl o S P q Y' := by
  have r1 := (SM_io h).2.2
  have ne : ∀ x, rl x ≠ 1 → mI (wI M o j v) x = mI M x := fun x hx => mI_ne (rl_ne (rl := rl) (by rw [r1]; exact hx))
  unfold SM
  rw [e1, e2, e3]
  exact ⟨h.1, ho, SMc_cg h.1.2.2 h.2.2.1 (fun x _ _ _ => ne x (by omega)), SMa_cg h.1.2.2 hb.2.1 h.2.2.2.1 (fun x _ _ _ => ne x (by omega)), SMp_cg h.1.2.2 hb h.2.2.2.2 (fun x _ _ => ne x (by omega))⟩
theorem SM_nw (hb : SGb P (yd_n Y)) (h : SM G M rl o S P q Y) {x k n r : Nat} (hx : x ∉ gL G) : SM (gNw G x k n) (wZ M x) (rU rl x r) o S P q Y := SM_cg hb h (GK_nw hx) (fun _ hy _ => wZ_ne (mem_ne hy hx))
theorem s_wash (hb : SGb P (yd_n Y)) (h : SM G M rl o S P q Y) (hv : ∀ p, yd_c Y p < 6) {f t : Nat} (hf : f ≤ t) (ht : t < 64) {post : gS → mS → Int32 → Prop} (hB : uL (t + 1 - f, 64 * (t + 1 - f)) b) (hk : ∀ G' M' rl' S', Kp G M rl G' M' rl' → SE S S' → SM G' M' rl' o S' P q (aWash f t Y) → post G' M' (zn (nz (yd_c Y) (64 * f) (64 * (t + 1 - f))))) : n_X10_wash b G M o (zn f) (zn t) post := by
  unfold n_X10_wash
  refine ⟨fun n u G1 M1 v3 v4 => ∃ j rl1 S1, n + j = t + 1 - f ∧ u = (j, 64 * j) ∧ v4 = zn (f + j) ∧ v3 = zn (nz (yd_c Y) (64 * f) (64 * j)) ∧ Kp G M rl G1 M1 rl1 ∧ SE S S1 ∧ SM G1 M1 rl1 o S1 P q (wY f j Y), t + 1 - f, ⟨0, rl, S, rfl, rfl, rfl, rfl, Kp_rf, SE_rf, by rw [wY_0]; exact h⟩, ?_⟩
  rintro n u G1 M1 v3 v4 ⟨j, rl1, S1, hj, rfl, rfl, rfl, kp, se, h1⟩
  unfold nb_X10_wash_5
  by_cases e : j = t + 1 - f
  · have hz : nz (yd_c Y) (64 * f) (64 * j) = nz (yd_c Y) (64 * f) (64 * (t + 1 - f)) := by rw [e]
    refine i_t ((zn_lt (by omega) (by omega)).mpr (by omega)) (i_wI ?_)
    rw [hz]
    refine hk _ _ rl1 S1 (Kp_tr kp (Kp_wI (SM_io h1).2.1)) se ?_
    have ho := h1.2.1
    have hY : aWash f t Y = (cWash (yd_c Y) (64 * f) (64 * j), yd_n Y, yd_a Y, yd_t Y, yd_m Y, yd_w Y + nz (yd_c Y) (64 * f) (64 * (t + 1 - f)), yd_k Y) := by rw [e]; rfl
    rw [hY]
    refine SM_ow (Y := wY f j Y) hb h1 rfl rfl rfl ⟨?_, ?_, ?_, ?_⟩
    · rw [mI_eq, if_neg (by decide)]; exact ho.1
    · rw [mI_eq, if_neg (by decide)]; exact ho.2.1
    · rw [mI_eq, if_pos rfl, ho.2.2.1]; exact zn_add _ _
    · rw [mI_eq, if_neg (by decide)]; exact ho.2.2.2
  · have hr : f + j < 64 := by omega
    have hvj : ∀ p, yd_c (wY f j Y) p < 6 := fun p => by
      show cWash (yd_c Y) (64 * f) (64 * j) p < 6
      unfold cWash
      split
      · decide
      · exact hv p
    have hB2 : uL (uP (j, 64 * j) (1, 64)) b := ⟨Nat.le_trans (by show j + 1 ≤ t + 1 - f; omega) hB.1, Nat.le_trans (by show 64 * j + 64 ≤ 64 * (t + 1 - f); omega) hB.2⟩
    have hB1 : uL (j, 64 * j) b := ⟨Nat.le_trans (by show j ≤ t + 1 - f; omega) hB.1, Nat.le_trans (by show 64 * j ≤ 64 * (t + 1 - f); omega) hB.2⟩
    refine i_f (by rw [zn_lt (by omega) (by omega)]; omega) (i_ca0 hB1 (s_darkIn h1 hvj hr (i_bd (i_rf (SM_f h1 (i := 1) (by decide)) (i_na (N := 64) rfl (by decide) hB2 (fun x hx => ?_))))))
    have h2 := SM_nw (Y := wY f j Y) (r := 2000 + (f + j)) (k := 12) (n := 64) hb h1 hx
    refine i_ix (by rw [(SM_n h2).2.1]; exact zn_in hr (by decide)) ?_
    rw [zn_nat (by omega)]
    refine i_sR (i_bd ⟨n - 1, by omega, j + 1, rU rl1 x (2000 + (f + j)), stY S1 (f + j) x, by omega, ?_, zn_one (f + j), ?_, ?_, ?_, ?_⟩)
    · show (j + 1, 64 * j + 64) = (j + 1, 64 * (j + 1))
      rw [show 64 * j + 64 = 64 * (j + 1) by omega]
    · rw [zn_add]
      congr 1
      have e1 : nz (yd_c (wY f j Y)) (64 * (f + j)) 64 = nz (yd_c Y) (64 * (f + j)) 64 := nz_congr 64 (fun p h1 h2 => by
        show cWash (yd_c Y) (64 * f) (64 * j) p = yd_c Y p
        unfold cWash
        rw [if_neg (by omega)])
      rw [e1, show 64 * (j + 1) = 64 * j + 64 by omega, nz_app, show 64 * f + 64 * j = 64 * (f + j) by omega]
    · refine Kp_tr kp (Kp_tr (Kp_nw hx) (Kp_st ?_))
      exact (SGo_g h2.1.1 (i := 1) (by decide)).2.1
    · exact SE_tr se ⟨rfl, rfl, rfl, rfl⟩
    · have g2 := SG_y h2.1 hr gL_nw gK_nw rU_eq gN_nw
      refine ⟨g2, h2.2.1, fun r hr2 y hy => ?_, h2.2.2.2.1, h2.2.2.2.2⟩
      show mI (wZ M1 x) (if r = f + j then x else sry S1 r) y = zn (cWash (yd_c Y) (64 * f) (64 * (j + 1)) (64 * r + y))
      by_cases er : r = f + j
      · rw [if_pos er, wZ_eq]
        unfold cWash
        rw [if_pos (by omega)]
        rfl
      · rw [if_neg er, h2.2.2.1 r hr2 y hy]
        show zn (cWash (yd_c Y) (64 * f) (64 * j) (64 * r + y)) = _
        congr 1
        unfold cWash
        by_cases ec : 64 * f ≤ 64 * r + y ∧ 64 * r + y < 64 * f + 64 * j
        · rw [if_pos ec, if_pos (by omega)]
        · rw [if_neg ec, if_neg (by omega)]
/-- an ant's row is written -/
theorem SM_ant (hb : SGb P (yd_n Y)) (h : SM G M rl o S P q Y) {i : Nat} (hi : i < yd_n Y) {M' : mS} {A : aA} (hne : ∀ x, x ≠ sra S i → mI M' x = mI M x) (hA : aRow M' (sra S i) A) (hn : an_n A = an_n (yd_a Y i)) (hh : ∀ k, k < an_n A → an_h A k = an_h (yd_a Y i) k) : SM G M' rl o S P q (aAnt i A Y) := by
  obtain ⟨_, r2, _, r4, _⟩ := h.1.2.2.2.2.1 i hi
  have hi2 := hb.2.1
  have ne : ∀ x, rl x ≠ 3000 + i → mI M' x = mI M x := fun x hx => hne x (rl_ne (rl := rl) (by rw [r4]; exact hx))
  have eln : (fun k => an_n (yd_a (aAnt i A Y) k)) = fun k => an_n (yd_a Y k) := by
    funext k
    show an_n (if k = i then A else yd_a Y k) = _
    by_cases e : k = i
    · rw [if_pos e, hn, e]
    · rw [if_neg e]
  unfold SM
  rw [eln]
  refine ⟨h.1, SMo_cg h.1.1 h.2.1 (fun x _ e => ne x (by omega)), SMc_cg h.1.2.2 h.2.2.1 (fun x _ _ _ => ne x (by omega)), fun k hk => ?_, SMp_cg h.1.2.2 hb h.2.2.2.2 (fun x _ _ => ne x (by omega))⟩
  show aRow M' (sra S k) (if k = i then A else yd_a Y k) ∧ ∀ t, t < an_n (if k = i then A else yd_a Y k) → mI M' (srp S k) t = zn (an_h (if k = i then A else yd_a Y k) t)
  have hk2 : k < yd_n Y := hk
  obtain ⟨_, p2, _, p4, _⟩ := h.1.2.2.2.2.2.1 k hk2
  obtain ⟨_, a2, _, a4, _⟩ := h.1.2.2.2.2.1 k hk2
  have hold := h.2.2.2.1 k hk2
  have ep : mI M' (srp S k) = mI M (srp S k) := ne _ (by omega)
  by_cases e : k = i
  · subst e
    rw [if_pos rfl]
    refine ⟨hA, fun t ht => ?_⟩
    rw [ep, hold.2 t (by omega), hh t ht]
  · rw [if_neg e]
    have ea : mI M' (sra S k) = mI M (sra S k) := ne _ (by omega)
    refine ⟨?_, fun t ht => by rw [ep]; exact hold.2 t ht⟩
    unfold aRow
    rw [ea]
    exact hold.1
/-- an ant's path is another -/
theorem SM_path (h : SM G M rl o S P q Y) {i : Nat} (hi : i < yd_n Y) {x : Nat} {A : aA} (h1 : x ∈ gL G) (h2 : gK G x = 12) (h3 : rl x = 4000 + i) (h4 : gN G x = an_n A) (hA : aRow M (sra S i) A) (hh : ∀ k, k < an_n A → mI M x k = zn (an_h A k)) : SM (gSt G (sg S 3) i x) M rl o (stP S i x) P q (aAnt i A Y) := by
  have g := SG_p h.1 hi h1 h2 h3
  have eln : (fun k => an_n (yd_a (aAnt i A Y) k)) = fun k => if k = i then gN G x else an_n (yd_a Y k) := by
    funext k
    show an_n (if k = i then A else yd_a Y k) = _
    by_cases e : k = i
    · rw [if_pos e, if_pos e, h4]
    · rw [if_neg e, if_neg e]
  unfold SM
  rw [eln]
  refine ⟨g, h.2.1, h.2.2.1, fun k hk => ?_, h.2.2.2.2⟩
  show aRow M (sra S k) (if k = i then A else yd_a Y k) ∧ ∀ t, t < an_n (if k = i then A else yd_a Y k) → mI M (if k = i then x else srp S k) t = zn (an_h (if k = i then A else yd_a Y k) t)
  by_cases e : k = i
  · subst e
    rw [if_pos rfl, if_pos rfl]
    exact ⟨hA, hh⟩
  · rw [if_neg e, if_neg e]
    exact h.2.2.2.1 k hk
/-- what is done by a row -/
def sDo (Y : aY) (w : Nat → Nat) : aY × Bool := if w 0 = 0 then (aWash (w 1) (w 2) Y, decide (0 < nz (yd_c Y) (64 * w 1) (64 * (w 2 + 1 - w 1)))) else if w 0 = 1 then (if an_s (yd_a Y (w 1)) = w 2 then (Y, false) else (aAnt (w 1) (anFace (w 2) (yd_a Y (w 1))) Y, true)) else (aAnt (w 1) (anWalk (if w 0 = 3 then 1 else 0) (yd_a Y (w 1))) Y, decide (an_w (yd_a Y (w 1)) ≠ if w 0 = 3 then 1 else 0))
def vW (n : Nat) (w : Nat → Nat) : Prop := (w 0 = 0 ∧ w 1 ≤ w 2 ∧ w 2 < 64) ∨ (w 0 = 1 ∧ w 1 < n ∧ w 2 < 4) ∨ ((w 0 = 2 ∨ w 0 = 3) ∧ w 1 < n)
def oC (w : Nat → Nat) : uS := if w 0 = 0 then (w 2 + 1 - w 1, 64 * (w 2 + 1 - w 1)) else (1, 0)
theorem s_does (hb : SGb P (yd_n Y)) (h : SM G M rl o S P q Y) (hv : vY bb Y) {k : Nat} (hko : k < pg_o P) (hw : vW (yd_n Y) (q k)) {post : gS → mS → Int32 → Prop} (hB : uL (oC (q k)) b) (hk : ∀ G' M' rl' S', Kp G M rl G' M' rl' → SE S S' → SM G' M' rl' o S' P q (sDo Y (q k)).1 → post G' M' (bI (sDo Y (q k)).2)) : n_X10_does b G M o (sro S k) post := by
  have h6 := hv.2.1
  obtain ⟨hqo, hno⟩ := SM_o h hko
  obtain ⟨_, ro2, _, ro4, _⟩ := h.1.2.2.2.2.2.2 k hko
  have hq : ∀ j, j < 6 → mI M (sro S k) j = zn (q k j) := fun j hj => h.2.2.2.2.2 k hko j hj
  have hin : ∀ {k : Nat}, k < yd_n Y → vp_in (zn k) (gN G (sg S 2)) := fun hk => by rw [(SM_n h).2.2.1]; exact zn_in hk (by omega)
  have hi0 : vp_in (0 : Int32) (gN G (sro S k)) := by rw [hno]; exact vi_0 (by decide) (by decide)
  have hi1 : vp_in (1 : Int32) (gN G (sro S k)) := by rw [hno]; exact vi_1 (by decide) (by decide)
  have hi2 : vp_in (2 : Int32) (gN G (sro S k)) := by rw [hno]; exact vi_2 (by decide) (by decide)
  unfold n_X10_does nb_X10_does_24
  rw [nat_0, nat_1, nat_2, nat_3, hq 0 (by decide), hq 1 (by decide), hq 2 (by decide)]
  have hw0 : q k 0 < 4 := by unfold vW at hw; omega
  refine i_ix hi0 (i_if (fun k0 => ?_) (fun k0 => ?_))
  · have e0 := (zn_inj (b := 0) (by omega) (by decide)).mp k0
    have hD : sDo Y (q k) = (aWash (q k 1) (q k 2) Y, decide (0 < nz (yd_c Y) (64 * q k 1) (64 * (q k 2 + 1 - q k 1)))) := by unfold sDo; rw [if_pos e0]
    have hC : oC (q k) = (q k 2 + 1 - q k 1, 64 * (q k 2 + 1 - q k 1)) := by unfold oC; rw [if_pos e0]
    rw [hD] at hk
    rw [hC] at hB
    have hw1 : q k 1 ≤ q k 2 ∧ q k 2 < 64 := by unfold vW at hw; omega
    have hz := nz_le (c := yd_c Y) (b := 64 * q k 1) (64 * (q k 2 + 1 - q k 1))
    refine i_ix hi1 (i_ix hi2 ⟨(q k 2 + 1 - q k 1, 64 * (q k 2 + 1 - q k 1)), ?_, ?_⟩)
    · show 0 + _ ≤ _ ∧ 0 + _ ≤ _
      rw [Nat.zero_add, Nat.zero_add]
      exact hB
    · refine s_wash hb h hv.1 hw1.1 hw1.2 ⟨Nat.le_refl _, Nat.le_refl _⟩ (fun G' M' rl' S' kp se hs => ?_)
      have hfin := hk G' M' rl' S' kp se hs
      refine i_if (fun k2 => ?_) (fun k2 => ?_)
      · have := (zn_le (b := 0) (by omega) (by decide)).mp k2
        rw [decide_eq_false (by omega)] at hfin
        exact i_ck (Or.inl rfl) hfin
      · have : ¬ nz (yd_c Y) (64 * q k 1) (64 * (q k 2 + 1 - q k 1)) ≤ 0 := fun z => k2 ((zn_le (b := 0) (by omega) (by decide)).mpr z)
        rw [decide_eq_true (by omega)] at hfin
        exact i_ck (Or.inr rfl) hfin
  · have e0 : ¬ q k 0 = 0 := fun z => k0 (by rw [z]; rfl)
    have hC : oC (q k) = (1, 0) := by unfold oC; rw [if_neg e0]
    rw [hC] at hB
    have hi : q k 1 < yd_n Y := by unfold vW at hw; omega
    obtain ⟨hqi, hni⟩ := SM_a h hi
    obtain ⟨_, ra2, _, ra4, _⟩ := h.1.2.2.2.2.1 _ hi
    have hAr := SM_ar h hi
    have hvi := (hv.2.2 _ hi).1
    have hs4 := hvi.2.2.2.1
    have hw2 := hvi.2.2.2.2.1
    have sia : Si rl (sra S (q k 1)) := by unfold Si; rw [ra4]; omega
    refine i_rf (SM_f h (i := 2) (by decide)) (i_ix hi1 (i_ix (hin hi) ?_))
    rw [zn_nat (by omega)]
    refine i_rf hqi (i_ix hi0 (i_if (fun k1 => ?_) (fun k1 => ?_)))
    · have e1 := (zn_inj (b := 1) (by omega) (by decide)).mp k1
      have hsd : q k 2 < 4 := by unfold vW at hw; omega
      refine i_ix (by rw [hni]; exact vi_3 (by decide) (by decide)) (i_ix hi2 ?_)
      rw [hAr.2.2.2.1]
      refine i_if (fun k2 => ?_) (fun k2 => ?_)
      · have e2 := (zn_inj (by omega) (by omega)).mp k2
        have hD : sDo Y (q k) = (Y, false) := by unfold sDo; rw [if_neg e0, if_pos e1, if_pos e2]
        rw [hD] at hk
        exact i_ck (Or.inl rfl) (hk G M rl S Kp_rf SE_rf h)
      · have e2 : ¬ an_s (yd_a Y (q k 1)) = q k 2 := fun z => k2 (by rw [z])
        have hD : sDo Y (q k) = (aAnt (q k 1) (anFace (q k 2) (yd_a Y (q k 1))) Y, true) := by unfold sDo; rw [if_neg e0, if_pos e1, if_neg e2]
        rw [hD] at hk
        refine i_ix hi2 (i_ix (by rw [hni]; exact vi_3 (by decide) (by decide)) (i_wI (i_rf (SM_f h (i := 3) (by decide)) (i_ix hi1 (i_na (N := 0) rfl (by decide) hB (fun x hx => ?_))))))
        have h1 : SM G (wI M (sra S (q k 1)) 3 (zn (q k 2))) rl o S P q (aAnt (q k 1) (an_r (yd_a Y (q k 1)), an_x (yd_a Y (q k 1)), an_y (yd_a Y (q k 1)), q k 2, an_w (yd_a Y (q k 1)), an_t (yd_a Y (q k 1)), an_n (yd_a Y (q k 1)), an_h (yd_a Y (q k 1))) Y) := by
          refine SM_ant hb h hi (fun y hy => mI_ne hy) ?_ rfl (fun _ _ => rfl)
          unfold aRow
          rw [mI_eq, mI_eq, mI_eq, mI_eq, mI_eq, mI_eq, if_neg (by decide), if_neg (by decide), if_neg (by decide), if_pos rfl, if_neg (by decide), if_neg (by decide)]
          exact ⟨hAr.1, hAr.2.1, hAr.2.2.1, rfl, hAr.2.2.2.2.1, hAr.2.2.2.2.2⟩
        have hb1 : SGb P (yd_n (aAnt (q k 1) (an_r (yd_a Y (q k 1)), an_x (yd_a Y (q k 1)), an_y (yd_a Y (q k 1)), q k 2, an_w (yd_a Y (q k 1)), an_t (yd_a Y (q k 1)), an_n (yd_a Y (q k 1)), an_h (yd_a Y (q k 1))) Y)) := hb
        have h2 := SM_nw (r := 4000 + q k 1) (k := 12) (n := 0) hb1 h1 hx
        rw [mI_ne (x := sro S k) (a := sra S (q k 1)) (rl_ne (rl := rl) (by omega)), hq 1 (by decide)]
        refine i_ix (by rw [(SM_n h2).2.2.2.1]; exact zn_in hi (by show yd_n Y ≤ _; omega)) ?_
        rw [zn_nat (by omega)]
        refine i_sR (i_ck (Or.inr rfl) (hk _ _ (rU rl x (4000 + q k 1)) (stP S (q k 1) x) ?_ ⟨rfl, rfl, rfl, rfl⟩ ?_))
        · exact Kp_tr (Kp_wI sia) (Kp_tr (Kp_nw hx) (Kp_st (SGo_g h2.1.1 (i := 3) (by decide)).2.1))
        · have hA2 := SM_ar h2 (i := q k 1) hi
          have h3 := SM_path h2 (i := q k 1) hi (A := anFace (q k 2) (yd_a Y (q k 1))) gL_nw gK_nw rU_eq gN_nw (by
            have e : yd_a (aAnt (q k 1) (an_r (yd_a Y (q k 1)), an_x (yd_a Y (q k 1)), an_y (yd_a Y (q k 1)), q k 2, an_w (yd_a Y (q k 1)), an_t (yd_a Y (q k 1)), an_n (yd_a Y (q k 1)), an_h (yd_a Y (q k 1))) Y) (q k 1) = (an_r (yd_a Y (q k 1)), an_x (yd_a Y (q k 1)), an_y (yd_a Y (q k 1)), q k 2, an_w (yd_a Y (q k 1)), an_t (yd_a Y (q k 1)), an_n (yd_a Y (q k 1)), an_h (yd_a Y (q k 1))) := if_pos rfl
            rw [e] at hA2
            exact hA2) (fun t ht => absurd ht (Nat.not_lt_zero t))
          rw [aAnt_aAnt] at h3
          exact h3
    · have e1 : ¬ q k 0 = 1 := fun z => k1 (by rw [z]; rfl)
      have hD : sDo Y (q k) = (aAnt (q k 1) (anWalk (if q k 0 = 3 then 1 else 0) (yd_a Y (q k 1))) Y, decide (an_w (yd_a Y (q k 1)) ≠ if q k 0 = 3 then 1 else 0)) := by unfold sDo; rw [if_neg e0, if_neg e1]
      rw [hD] at hk
      have key : ∀ v : Nat, v < 2 → v = (if q k 0 = 3 then 1 else 0) → nb_X10_does_83 b o (sro S k) post (0, 0) G M (sra S (q k 1)) (zn v) := by
        intro v hv2 ev
        rw [← ev] at hk
        unfold nb_X10_does_83 nb_X10_does_96
        rw [nat_4]
        have hi4 : vp_in (4 : Int32) (gN G (sra S (q k 1))) := by rw [hni]; exact vi_4 (by decide) (by decide)
        have h1 : SM G (wI M (sra S (q k 1)) 4 (zn v)) rl o S P q (aAnt (q k 1) (anWalk v (yd_a Y (q k 1))) Y) := by
          refine SM_ant hb h hi (fun y hy => mI_ne hy) ?_ rfl (fun _ _ => rfl)
          unfold aRow
          rw [mI_eq, mI_eq, mI_eq, mI_eq, mI_eq, mI_eq, if_neg (by decide), if_neg (by decide), if_neg (by decide), if_neg (by decide), if_pos rfl, if_neg (by decide)]
          exact ⟨hAr.1, hAr.2.1, hAr.2.2.1, hAr.2.2.2.1, rfl, hAr.2.2.2.2.2⟩
        have hfin := hk G _ rl S (Kp_wI sia) SE_rf h1
        refine i_ix hi4 ?_
        rw [hAr.2.2.2.2.1]
        refine i_if (fun k2 => ?_) (fun k2 => ?_)
        · have e2 := (zn_inj (by omega) (by omega)).mp k2
          rw [decide_eq_false (fun z => z e2)] at hfin
          exact i_ix hi4 (i_wI (i_ck (Or.inl rfl) hfin))
        · have hnw : an_w (yd_a Y (q k 1)) ≠ v := fun z => k2 (by rw [z])
          rw [decide_eq_true hnw] at hfin
          exact i_ix hi4 (i_wI (i_ck (Or.inr rfl) hfin))
      refine i_ix hi0 (i_if (fun k3 => ?_) (fun k3 => ?_))
      · have e3 := (zn_inj (b := 3) (by omega) (by decide)).mp k3
        exact key 1 (by decide) (by rw [if_pos e3])
      · have e3 : ¬ q k 0 = 3 := fun z => k3 (by rw [z]; rfl)
        exact key 0 (by decide) (by rw [if_neg e3])
end SimDo
