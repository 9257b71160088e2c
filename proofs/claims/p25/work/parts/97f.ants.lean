/-! an ant more: its row and its path -/
section AddA
variable {G G1 G3 : gS} {M : mS} {rl : Nat → Nat} {o : Nat} {S : sA} {P : aP} {q : Nat → Nat → Nat} {Y : aY} {x y n p z : Nat} {f : Nat → Nat}
/-- x the ant's row, y the rows of ants, p the path's row, z the rows of paths -/
theorem SM_addA (hb : SGb P (yd_n Y)) (h : SM G M rl o S P q Y) (hx : TR G M rl x 6 6 f) (hy : y ∉ gL G) (eP : ∀ w, w ≠ y → gP G1 w = gP G w) (eL : gL G1 = gL G ++ [y]) (eK : gK G1 = va_up (gK G) y 15) (eN : gN G1 = va_up (gN G) y (n + 1)) (hold : ∀ i, i < n → gP G1 y i = gP G (sg S 2) i) (hnew : gP G1 y n = some x) (hp : p ∉ gL (gSt G1 o 6 y)) (hz : z ∉ gL (gNw (gSt G1 o 6 y) p 12 0)) (eP3 : ∀ w, w ≠ z → gP G3 w = gP (gNw (gSt G1 o 6 y) p 12 0) w) (eL3 : gL G3 = gL (gNw (gSt G1 o 6 y) p 12 0) ++ [z]) (eK3 : gK G3 = va_up (gK (gNw (gSt G1 o 6 y) p 12 0)) z 15) (eN3 : gN G3 = va_up (gN (gNw (gSt G1 o 6 y) p 12 0)) z (n + 1)) (hold3 : ∀ i, i < n → gP G3 z i = gP (gNw (gSt G1 o 6 y) p 12 0) (sg S 3) i) (hnew3 : gP G3 z n = some p) {Y' : aY} (hn : yd_n Y = n) (y1 : yd_n Y' = n + 1) (y2 : yd_c Y' = yd_c Y) (y3 : ∀ i, i < n → yd_a Y' i = yd_a Y i) (y4 : yd_t Y' = yd_t Y ∧ yd_m Y' = yd_m Y ∧ yd_w Y' = yd_w Y ∧ yd_k Y' = yd_k Y) (y5 : f 0 = an_r (yd_a Y' n) ∧ f 1 = an_x (yd_a Y' n) ∧ f 2 = an_y (yd_a Y' n) ∧ f 3 = an_s (yd_a Y' n) ∧ f 4 = an_w (yd_a Y' n) ∧ f 5 = an_t (yd_a Y' n)) (y6 : an_n (yd_a Y' n) = 0) : SM (gSt G3 o 7 z) (wZ (wZ (wZ M y) p) z) (rU (rU (rU (rU rl y 4) x (3000 + n)) p (4000 + n)) z 5) o (stS (stS S 2 y, srr S, sry S, sra S, srp S, sro S) 3 z, srr S, sry S, addF (sra S) n x, addF (srp S) n p, sro S) P q Y' := by
  have hb' := hb
  obtain ⟨b1, b2, b3⟩ := hb
  obtain ⟨⟨z1, z2, z3, z4⟩, z5⟩ := hx
  obtain ⟨hG, ho, hc, ha, hpp⟩ := h
  have hio := hG.1.1
  have nxy : x ≠ y := mem_ne z1 hy
  have noy : o ≠ y := mem_ne hio.1 hy
  have nyo : y ≠ o := fun e => noy e.symm
  have nyx : y ≠ x := fun e => nxy e.symm
  have nxs : ¬ Si (rU rl y 4) x := fun w => by unfold Si at w; rw [rU_ne nxy] at w; omega
  have inG1 : ∀ w, w ∈ gL G → w ∈ gL (gSt G1 o 6 y) := fun w hw => by show w ∈ gL G1; rw [eL]; exact List.mem_append_left _ hw
  have inN : ∀ w, w ∈ gL (gSt G1 o 6 y) → w ∈ gL (gNw (gSt G1 o 6 y) p 12 0) := fun w hw => List.mem_append_left _ hw
  have inG3 : ∀ w, w ∈ gL (gNw (gSt G1 o 6 y) p 12 0) → w ∈ gL (gSt G3 o 7 z) := fun w hw => by show w ∈ gL G3; rw [eL3]; exact List.mem_append_left _ hw
  have yin : y ∈ gL (gSt G1 o 6 y) := by show y ∈ gL G1; rw [eL]; exact List.mem_append_right _ (List.mem_singleton.mpr rfl)
  have nop : o ≠ p := mem_ne (inG1 o hio.1) hp
  have npo : p ≠ o := fun e => nop e.symm
  have noz : o ≠ z := mem_ne (inN o (inG1 o hio.1)) hz
  have nzo : z ≠ o := fun e => noz e.symm
  have nxp : x ≠ p := mem_ne (inG1 x z1) hp
  have nyp : y ≠ p := mem_ne yin hp
  have nxz : x ≠ z := mem_ne (inN x (inG1 x z1)) hz
  have nyz : y ≠ z := mem_ne (inN y yin) hz
  have npz : p ≠ z := mem_ne gL_nw hz
  have nzp : z ≠ p := fun e => npz e.symm
  have g1 : GO G rl o (gSt G1 o 6 y) (rU (rU rl y 4) x (3000 + n)) := GO_tr (GO_wi hy eL eK eN eP) (GO_tr (GO_ru nxs) GO_st)
  have g2 : GO (gSt G1 o 6 y) (rU (rU rl y 4) x (3000 + n)) o (gSt G3 o 7 z) (rU (rU (rU (rU rl y 4) x (3000 + n)) p (4000 + n)) z 5) := GO_tr (GO_nw hp) (GO_tr (GO_wi hz eL3 eK3 eN3 eP3) GO_st)
  have go := GO_tr g1 g2
  have fo1 : ∀ j, j ≠ 2 → gP (gSt G1 o 6 y) o (4 + j) = gP G o (4 + j) := fun j hj => by rw [gSt_eq, if_neg (by omega), eP o noy]
  have fo2 : ∀ j, j ≠ 3 → gP (gSt G3 o 7 z) o (4 + j) = gP (gSt G1 o 6 y) o (4 + j) := fun j hj => by rw [gSt_eq, if_neg (by omega), eP3 o noz]; exact congrFun (up_ne nop) _
  have fo : ∀ j, j ≠ 2 → j ≠ 3 → gP (gSt G3 o 7 z) o (4 + j) = gP G o (4 + j) := fun j h2 h3 => (fo2 j h3).trans (fo1 j h2)
  have hI : ∀ w, w ∈ gL G → mI (wZ (wZ (wZ M y) p) z) w = mI M w := fun w hw => by
    rw [wZ_ne (mem_ne (inN w (inG1 w hw)) hz), wZ_ne (mem_ne (inG1 w hw) hp), wZ_ne (mem_ne hw hy)]
  have ho1 : (rU (rU rl y 4) x (3000 + n)) o = 1 := (g1 o hio.1 (SGo_s hG.1)).2.2.2.1.trans hio.2.2
  have r2 := RL_add hio.2.2 (SG_2 hG) (by decide) (by decide) (by omega) g1 (y' := y) (x := x) (lx := 6) (by rw [gSt_eq, if_pos rfl]) yin (by show gK G1 y = 15; rw [eK]; exact up_eq) (by rw [rU_ne nyx, rU_eq]) (by show gN G1 y = _; rw [eN, hn]; exact up_eq) (fun i hi => by rw [gSt_ne nyo]; exact hold i (by omega)) (by rw [gSt_ne nyo, hn]; exact hnew) (inG1 x z1) (by show gK G1 x = 12; rw [eK]; exact (up_ne nxy).trans z2) (by rw [rU_eq, hn]) (by show gN G1 x = 6; rw [eN]; exact (up_ne nxy).trans z4)
  have r2' := RL_go ho1 r2 (by decide) (by decide) (by omega) g2 (fo2 2 (by decide))
  rw [hn, ← y1] at r2'
  have r2'' := RL_ln (ln' := fun _ => 6) r2' (fun i hi => by
    show 6 = if i = n then 6 else 6
    split <;> rfl)
  have r3 := RL_go hio.2.2 (SG_3 hG) (by decide) (by decide) (by omega) g1 (fo1 3 (by decide))
  have s3 := (SG_3 hG).1.2.1
  have nsp : sg S 3 ≠ p := mem_ne (inG1 _ s3) hp
  have r3' := RL_add ho1 r3 (by decide) (by decide) (by omega) g2 (y' := z) (x := p) (lx := 0) (by rw [gSt_eq, if_pos rfl]) (by show z ∈ gL G3; rw [eL3]; exact List.mem_append_right _ (List.mem_singleton.mpr rfl)) (by show gK G3 z = 15; rw [eK3]; exact up_eq) rU_eq (by show gN G3 z = _; rw [eN3, hn]; exact up_eq) (fun i hi => by rw [gSt_ne nzo, hold3 i (by omega)]; exact congrFun (up_ne nsp) i) (by rw [gSt_ne nzo, hn]; exact hnew3) (inG3 p gL_nw) (by show gK G3 p = 12; rw [eK3]; exact (up_ne npz).trans gK_nw) (by rw [rU_ne npz, rU_eq, hn]) (by show gN G3 p = 0; rw [eN3]; exact (up_ne npz).trans gN_nw)
  rw [hn, ← y1] at r3'
  have r3'' := RL_ln (ln' := fun i => an_n (yd_a Y' i)) r3' (fun i hi => by
    show an_n (yd_a Y' i) = if i = n then 0 else an_n (yd_a Y i)
    by_cases e : i = n
    · rw [if_pos e, e, y6]
    · rw [if_neg e, y3 i (by omega)])
  obtain ⟨t1, t2, t3, t4⟩ := y4
  have hfr := go o hio.1 (SGo_s hG.1)
  have hoo := SMo_cg (M' := wZ (wZ (wZ M y) p) z) hG.1 ho (fun w hw _ => hI w hw)
  have k0 := RL_go hio.2.2 (SG_0 hG) (by decide) (by decide) (by omega) go (fo 0 (by decide) (by decide))
  have k1 := RL_go hio.2.2 (SG_1 hG) (by decide) (by decide) (by decide) go (fo 1 (by decide) (by decide))
  have k4 := RL_go hio.2.2 (SG_4 hG) (by decide) (by decide) (by omega) go (fo 4 (by decide) (by decide))
  have hpp' := SMp_cg (M' := wZ (wZ (wZ M y) p) z) hG.2.2 hb' hpp (fun w hw _ => hI w hw)
  refine ⟨SG_of ⟨hfr.1, hfr.2.1.trans hio.2.1, hfr.2.2.2.1.trans hio.2.2⟩ k0 k1 r2'' r3'' k4, ?_, ?_, fun i hi => ?_, hpp'⟩
  · unfold SMo at hoo ⊢
    rw [t1, t2, t3, t4]
    exact hoo
  · rw [y2]
    exact SMc_cg hG.2.2 hc (fun w hw _ _ => hI w hw)
  · show aRow (wZ (wZ (wZ M y) p) z) (if i = n then x else sra S i) (yd_a Y' i) ∧ ∀ k, k < an_n (yd_a Y' i) → mI (wZ (wZ (wZ M y) p) z) (if i = n then p else srp S i) k = zn (an_h (yd_a Y' i) k)
    by_cases e : i = n
    · subst e
      rw [if_pos rfl, if_pos rfl, y6]
      refine ⟨?_, fun k hk => absurd hk (Nat.not_lt_zero k)⟩
      obtain ⟨f0, f1, f2, f3, f4, f5⟩ := y5
      unfold aRow
      rw [hI x z1, z5 0 (by decide), z5 1 (by decide), z5 2 (by decide), z5 3 (by decide), z5 4 (by decide), z5 5 (by decide), f0, f1, f2, f3, f4, f5]
      exact ⟨rfl, rfl, rfl, rfl, rfl, rfl⟩
    · have hi2 : i < yd_n Y := by omega
      rw [if_neg e, if_neg e, y3 i (by omega)]
      obtain ⟨h1, h2⟩ := ha i hi2
      unfold aRow at h1 ⊢
      rw [hI _ (hG.2.2.2.2.1 i hi2).2.1, hI _ (hG.2.2.2.2.2.1 i hi2).2.1]
      exact ⟨h1, h2⟩
end AddA
