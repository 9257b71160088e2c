/-! the hand's rows of rows, one at a time -/
def GO (G : gS) (rl : Nat → Nat) (o : Nat) (G' : gS) (rl' : Nat → Nat) : Prop := ∀ x, x ∈ gL G → Si rl x → x ∈ gL G' ∧ gK G' x = gK G x ∧ gN G' x = gN G x ∧ rl' x = rl x ∧ (x ≠ o → gP G' x = gP G x)
def RwL (G : gS) (rl : Nat → Nat) (o j y n : Nat) (row : Nat → Nat) (role : Nat) (ln : Nat → Nat) : Prop := (gP G o (4 + j) = some y ∧ y ∈ gL G ∧ gK G y = 15 ∧ rl y = 2 + j ∧ gN G y = n) ∧ ∀ i, i < n → Rw G rl y i (row i) (role + i) (ln i)
section RlSec
variable {G G' G1 : gS} {M M' : mS} {rl rl' r1 : Nat → Nat} {o j y n x s k role lx : Nat} {row ln : Nat → Nat}
theorem GO_rf : GO G rl o G rl := fun x hx _ => ⟨hx, rfl, rfl, rfl, fun _ => rfl⟩
theorem GO_tr (h : GO G rl o G1 r1) (h2 : GO G1 r1 o G' rl') : GO G rl o G' rl' := fun x hx hs => by
  obtain ⟨a1, a2, a3, a4, a5⟩ := h x hx hs
  obtain ⟨b1, b2, b3, b4, b5⟩ := h2 x a1 (by unfold Si at hs ⊢; rw [a4]; exact hs)
  exact ⟨b1, b2.trans a2, b3.trans a3, b4.trans a4, fun n => (b5 n).trans (a5 n)⟩
theorem GO_nw (hq : y ∉ gL G) : GO G rl o (gNw G y k n) (rU rl y s) := fun x hx _ => by
  have ne := mem_ne hx hq
  exact ⟨List.mem_append_left _ hx, up_ne ne, up_ne ne, rU_ne ne, fun _ => up_ne ne⟩
theorem GO_st : GO G rl o (gSt G o j s) rl := fun x hx _ => ⟨hx, rfl, rfl, rfl, fun n => gSt_ne n⟩
theorem GO_ru (hx : ¬ Si rl y) : GO G rl o G (rU rl y s) := fun x hx2 hs => ⟨hx2, rfl, rfl, rU_ne (fun e => hx (e ▸ hs)), fun _ => rfl⟩
theorem GO_wi (hy : y ∉ gL G) (eL : gL G' = gL G ++ [y]) (eK : gK G' = va_up (gK G) y 15) (eN : gN G' = va_up (gN G) y n) (eP : ∀ z, z ≠ y → gP G' z = gP G z) : GO G rl o G' (rU rl y s) := fun x hx _ => by
  have ne := mem_ne hx hy
  exact ⟨by rw [eL]; exact List.mem_append_left _ hx, by rw [eK]; exact up_ne ne, by rw [eN]; exact up_ne ne, rU_ne ne, fun _ => eP x ne⟩
theorem RL_go (ho : rl o = 1) (h : RwL G rl o j y n row role ln) (hj : j < 5) (h0 : 0 < role) (h1 : role + n ≤ 10000) (hk : GO G rl o G' rl') (hP : gP G' o (4 + j) = gP G o (4 + j)) : RwL G' rl' o j y n row role ln := by
  obtain ⟨⟨a1, a2, a3, a4, a5⟩, a6⟩ := h
  obtain ⟨k1, k2, k3, k4, k5⟩ := hk y a2 (by unfold Si; omega)
  have nyo : y ≠ o := fun e => by rw [e, ho] at a4; omega
  refine ⟨⟨hP.trans a1, k1, k2.trans a3, k4.trans a4, k3.trans a5⟩, fun i hi => ?_⟩
  obtain ⟨r1, r2, r3, r4, r5⟩ := a6 i hi
  obtain ⟨l1, l2, l3, l4, l5⟩ := hk _ r2 (by unfold Si; omega)
  exact ⟨by rw [k5 nyo]; exact r1, l1, l2.trans r3, l4.trans r4, l3.trans r5⟩
theorem RL_ln {ln' : Nat → Nat} (h : RwL G rl o j y n row role ln) (e : ∀ i, i < n → ln' i = ln i) : RwL G rl o j y n row role ln' := ⟨h.1, fun i hi => by rw [e i hi]; exact h.2 i hi⟩
/-- a row more -/
theorem RL_add (ho : rl o = 1) (h : RwL G rl o j y n row role ln) (hj : j < 5) (h0 : 0 < role) (h1 : role + n ≤ 10000) (hk : GO G rl o G' rl') {y' : Nat} (n1 : gP G' o (4 + j) = some y') (n2 : y' ∈ gL G') (n3 : gK G' y' = 15) (n4 : rl' y' = 2 + j) (n5 : gN G' y' = n + 1) (n6 : ∀ i, i < n → gP G' y' i = gP G y i) (n7 : gP G' y' n = some x) (x1 : x ∈ gL G') (x2 : gK G' x = 12) (x3 : rl' x = role + n) (x4 : gN G' x = lx) : RwL G' rl' o j y' (n + 1) (fun i => if i = n then x else row i) role (fun i => if i = n then lx else ln i) := by
  obtain ⟨⟨a1, a2, a3, a4, a5⟩, a6⟩ := h
  refine ⟨⟨n1, n2, n3, n4, n5⟩, fun i hi => ?_⟩
  show Rw G' rl' y' i (if i = n then x else row i) (role + i) (if i = n then lx else ln i)
  by_cases e : i = n
  · rw [if_pos e, if_pos e, e]
    exact ⟨n7, x1, x2, x3, x4⟩
  · rw [if_neg e, if_neg e]
    obtain ⟨r1, r2, r3, r4, r5⟩ := a6 i (by omega)
    obtain ⟨l1, l2, l3, l4, l5⟩ := hk _ r2 (by unfold Si; omega)
    exact ⟨(n6 i (by omega)).trans r1, l1, l2.trans r3, l4.trans r4, l3.trans r5⟩
variable {S : sA} {P : aP}
theorem SG_of (ho : o ∈ gL G ∧ gK G o = 9 ∧ rl o = 1) (h0 : RwL G rl o 0 (sg S 0) (pg_r P) (srr S) 1000 (pg_z P)) (h1 : RwL G rl o 1 (sg S 1) 64 (sry S) 2000 (fun _ => 64)) (h2 : RwL G rl o 2 (sg S 2) n (sra S) 3000 (fun _ => 6)) (h3 : RwL G rl o 3 (sg S 3) n (srp S) 4000 ln) (h4 : RwL G rl o 4 (sg S 4) (pg_o P) (sro S) 5000 (fun _ => 6)) : SG G rl o S P n ln := by
  refine ⟨⟨ho, fun i hi => ?_⟩, ⟨h0.1.2.2.2.2, h1.1.2.2.2.2, h2.1.2.2.2.2, h3.1.2.2.2.2, h4.1.2.2.2.2⟩, ⟨h0.2, h1.2, h2.2, h3.2, h4.2⟩⟩
  rcases (show i = 0 ∨ i = 1 ∨ i = 2 ∨ i = 3 ∨ i = 4 by omega) with rfl | rfl | rfl | rfl | rfl
  · exact ⟨h0.1.1, h0.1.2.1, h0.1.2.2.1, h0.1.2.2.2.1⟩
  · exact ⟨h1.1.1, h1.1.2.1, h1.1.2.2.1, h1.1.2.2.2.1⟩
  · exact ⟨h2.1.1, h2.1.2.1, h2.1.2.2.1, h2.1.2.2.2.1⟩
  · exact ⟨h3.1.1, h3.1.2.1, h3.1.2.2.1, h3.1.2.2.2.1⟩
  · exact ⟨h4.1.1, h4.1.2.1, h4.1.2.2.1, h4.1.2.2.2.1⟩
theorem SG_0 (h : SG G rl o S P n ln) : RwL G rl o 0 (sg S 0) (pg_r P) (srr S) 1000 (pg_z P) := ⟨⟨(h.1.2 0 (by decide)).1, (h.1.2 0 (by decide)).2.1, (h.1.2 0 (by decide)).2.2.1, (h.1.2 0 (by decide)).2.2.2, h.2.1.1⟩, h.2.2.1⟩
theorem SG_1 (h : SG G rl o S P n ln) : RwL G rl o 1 (sg S 1) 64 (sry S) 2000 (fun _ => 64) := ⟨⟨(h.1.2 1 (by decide)).1, (h.1.2 1 (by decide)).2.1, (h.1.2 1 (by decide)).2.2.1, (h.1.2 1 (by decide)).2.2.2, h.2.1.2.1⟩, h.2.2.2.1⟩
theorem SG_2 (h : SG G rl o S P n ln) : RwL G rl o 2 (sg S 2) n (sra S) 3000 (fun _ => 6) := ⟨⟨(h.1.2 2 (by decide)).1, (h.1.2 2 (by decide)).2.1, (h.1.2 2 (by decide)).2.2.1, (h.1.2 2 (by decide)).2.2.2, h.2.1.2.2.1⟩, h.2.2.2.2.1⟩
theorem SG_3 (h : SG G rl o S P n ln) : RwL G rl o 3 (sg S 3) n (srp S) 4000 ln := ⟨⟨(h.1.2 3 (by decide)).1, (h.1.2 3 (by decide)).2.1, (h.1.2 3 (by decide)).2.2.1, (h.1.2 3 (by decide)).2.2.2, h.2.1.2.2.2.1⟩, h.2.2.2.2.2.1⟩
theorem SG_4 (h : SG G rl o S P n ln) : RwL G rl o 4 (sg S 4) (pg_o P) (sro S) 5000 (fun _ => 6) := ⟨⟨(h.1.2 4 (by decide)).1, (h.1.2 4 (by decide)).2.1, (h.1.2 4 (by decide)).2.2.1, (h.1.2 4 (by decide)).2.2.2, h.2.1.2.2.2.2⟩, h.2.2.2.2.2.2⟩
end RlSec
/-! a row more: rules, orders, ants -/
section Adds
variable {G G1 : gS} {M : mS} {rl : Nat → Nat} {o : Nat} {S : sA} {P : aP} {q : Nat → Nat → Nat} {Y : aY} {x y n lx : Nat} {f : Nat → Nat}
def stS (S : sA) (j y : Nat) : Nat → Nat := fun i => if i = j then y else sg S i
def addF (g : Nat → Nat) (n x : Nat) : Nat → Nat := fun i => if i = n then x else g i
/-- a rule's row: x; the rows y -/
theorem SM_addR (hb : SGb P (yd_n Y)) (h : SM G M rl o S P q Y) (hx : TR G M rl x lx lx f) (hy : y ∉ gL G) (eP : ∀ z, z ≠ y → gP G1 z = gP G z) (eL : gL G1 = gL G ++ [y]) (eK : gK G1 = va_up (gK G) y 15) (eN : gN G1 = va_up (gN G) y (n + 1)) (hold : ∀ i, i < n → gP G1 y i = gP G (sg S 0) i) (hnew : gP G1 y n = some x) {P' : aP} (hn : pg_r P = n) (p1 : pg_r P' = n + 1) (p2 : ∀ i, i < n → pg_z P' i = pg_z P i) (p3 : pg_z P' n = lx) (p4 : ∀ i, i < n → ∀ k, k < pg_z P i → pg_t P' i k = pg_t P i k) (p5 : ∀ k, k < lx → pg_t P' n k = f k) (p6 : pg_o P' = pg_o P) : SM (gSt G1 o 4 y) (wZ M y) (rU (rU rl y 2) x (1000 + n)) o (stS S 0 y, addF (srr S) n x, sry S, sra S, srp S, sro S) P' q Y := by
  have hb' := hb
  obtain ⟨b1, b2, b3⟩ := hb
  obtain ⟨⟨z1, z2, z3, z4⟩, z5⟩ := hx
  obtain ⟨hG, ho, hc, ha, hp⟩ := h
  have hio := hG.1.1
  have nxy : x ≠ y := mem_ne z1 hy
  have noy : o ≠ y := mem_ne hio.1 hy
  have nox : o ≠ x := fun e => by have := hio.2.2; rw [e, z3] at this; omega
  have nxs : ¬ Si (rU rl y 2) x := fun z => by unfold Si at z; rw [rU_ne nxy] at z; omega
  have go : GO G rl o (gSt G1 o 4 y) (rU (rU rl y 2) x (1000 + n)) := GO_tr (GO_wi hy eL eK eN eP) (GO_tr (GO_ru nxs) GO_st)
  have fo : ∀ j, j ≠ 0 → gP (gSt G1 o 4 y) o (4 + j) = gP G o (4 + j) := fun j hj => by rw [gSt_eq, if_neg (by omega), eP o noy]
  have nyo : y ≠ o := fun e => noy e.symm
  have nyx : y ≠ x := fun e => nxy e.symm
  have hI : ∀ z, z ∈ gL G → mI (wZ M y) z = mI M z := fun z hz => wZ_ne (mem_ne hz hy)
  have r0 := RL_add hio.2.2 (SG_0 hG) (by decide) (by decide) (by omega) go (y' := y) (x := x) (lx := lx) (by rw [gSt_eq, if_pos rfl]) (by show y ∈ gL G1; rw [eL]; exact List.mem_append_right _ (List.mem_singleton.mpr rfl)) (by show gK G1 y = 15; rw [eK]; exact up_eq) (by rw [rU_ne nyx, rU_eq]) (by show gN G1 y = _; rw [eN, hn]; exact up_eq) (fun i hi => by rw [gSt_ne nyo]; exact hold i (by omega)) (by rw [gSt_ne nyo, hn]; exact hnew) (by show x ∈ gL G1; rw [eL]; exact List.mem_append_left _ z1) (by show gK G1 x = 12; rw [eK]; exact (up_ne nxy).trans z2) (by rw [rU_eq, hn]) (by show gN G1 x = lx; rw [eN]; exact (up_ne nxy).trans z4)
  rw [hn, ← p1] at r0
  have r0' := RL_ln (ln' := pg_z P') r0 (fun i hi => by
    show pg_z P' i = if i = n then lx else pg_z P i
    by_cases e : i = n
    · rw [if_pos e, e, p3]
    · rw [if_neg e, p2 i (by omega)])
  have r4 := RL_go hio.2.2 (SG_4 hG) (by decide) (by decide) (by omega) go (fo 4 (by decide))
  rw [← p6] at r4
  have k1 := RL_go hio.2.2 (SG_1 hG) (by decide) (by decide) (by decide) go (fo 1 (by decide))
  have k2 := RL_go hio.2.2 (SG_2 hG) (by decide) (by decide) (by omega) go (fo 2 (by decide))
  have k3 := RL_go hio.2.2 (SG_3 hG) (by decide) (by decide) (by omega) go (fo 3 (by decide))
  refine ⟨SG_of ⟨(go o hio.1 (SGo_s hG.1)).1, (go o hio.1 (SGo_s hG.1)).2.1.trans hio.2.1, (go o hio.1 (SGo_s hG.1)).2.2.2.1.trans hio.2.2⟩ r0' k1 k2 k3 r4, SMo_cg hG.1 ho (fun z hz _ => hI z hz), SMc_cg hG.2.2 hc (fun z hz _ _ => hI z hz), SMa_cg hG.2.2 b2 ha (fun z hz _ _ => hI z hz), ?_, ?_⟩
  · intro i hi k hk
    show mI (wZ M y) (if i = n then x else srr S i) k = _
    by_cases e : i = n
    · subst e
      rw [p3] at hk
      rw [if_pos rfl, hI x z1, z5 k hk, p5 k hk]
    · have hi2 : i < pg_r P := by omega
      rw [p2 i (by omega)] at hk
      rw [if_neg e, hI _ (hG.2.2.1 i hi2).2.1, hp.1 i hi2 k hk, p4 i (by omega) k hk]
  · intro k hk j hj
    rw [p6] at hk
    show mI (wZ M y) (sro S k) j = _
    rw [hI _ (hG.2.2.2.2.2.2 k hk).2.1]
    exact hp.2 k hk j hj
/-- an order's row -/
theorem SM_addO (hb : SGb P (yd_n Y)) (h : SM G M rl o S P q Y) (hx : TR G M rl x 6 6 f) (hy : y ∉ gL G) (eP : ∀ z, z ≠ y → gP G1 z = gP G z) (eL : gL G1 = gL G ++ [y]) (eK : gK G1 = va_up (gK G) y 15) (eN : gN G1 = va_up (gN G) y (n + 1)) (hold : ∀ i, i < n → gP G1 y i = gP G (sg S 4) i) (hnew : gP G1 y n = some x) {P' : aP} (hn : pg_o P = n) (p1 : pg_o P' = n + 1) (p2 : pg_r P' = pg_r P) (p3 : ∀ i, i < pg_r P → pg_z P' i = pg_z P i) (p4 : ∀ i, i < pg_r P → ∀ k, k < pg_z P i → pg_t P' i k = pg_t P i k) (p5 : ∀ k, k < 6 → q n k = f k) : SM (gSt G1 o 8 y) (wZ M y) (rU (rU rl y 6) x (5000 + n)) o (stS S 4 y, srr S, sry S, sra S, srp S, addF (sro S) n x) P' q Y := by
  have hb' := hb
  obtain ⟨b1, b2, b3⟩ := hb
  obtain ⟨⟨z1, z2, z3, z4⟩, z5⟩ := hx
  obtain ⟨hG, ho, hc, ha, hp⟩ := h
  have hio := hG.1.1
  have nxy : x ≠ y := mem_ne z1 hy
  have noy : o ≠ y := mem_ne hio.1 hy
  have nxs : ¬ Si (rU rl y 6) x := fun z => by unfold Si at z; rw [rU_ne nxy] at z; omega
  have go : GO G rl o (gSt G1 o 8 y) (rU (rU rl y 6) x (5000 + n)) := GO_tr (GO_wi hy eL eK eN eP) (GO_tr (GO_ru nxs) GO_st)
  have fo : ∀ j, j ≠ 4 → gP (gSt G1 o 8 y) o (4 + j) = gP G o (4 + j) := fun j hj => by rw [gSt_eq, if_neg (by omega), eP o noy]
  have nyo : y ≠ o := fun e => noy e.symm
  have nyx : y ≠ x := fun e => nxy e.symm
  have hI : ∀ z, z ∈ gL G → mI (wZ M y) z = mI M z := fun z hz => wZ_ne (mem_ne hz hy)
  have r4 := RL_add hio.2.2 (SG_4 hG) (by decide) (by decide) (by omega) go (y' := y) (x := x) (lx := 6) (by rw [gSt_eq, if_pos rfl]) (by show y ∈ gL G1; rw [eL]; exact List.mem_append_right _ (List.mem_singleton.mpr rfl)) (by show gK G1 y = 15; rw [eK]; exact up_eq) (by rw [rU_ne nyx, rU_eq]) (by show gN G1 y = _; rw [eN, hn]; exact up_eq) (fun i hi => by rw [gSt_ne nyo]; exact hold i (by omega)) (by rw [gSt_ne nyo, hn]; exact hnew) (by show x ∈ gL G1; rw [eL]; exact List.mem_append_left _ z1) (by show gK G1 x = 12; rw [eK]; exact (up_ne nxy).trans z2) (by rw [rU_eq, hn]) (by show gN G1 x = 6; rw [eN]; exact (up_ne nxy).trans z4)
  rw [hn, ← p1] at r4
  have r4' := RL_ln (ln' := fun _ => 6) r4 (fun i hi => by
    show 6 = if i = n then 6 else 6
    split <;> rfl)
  have r0 := RL_go hio.2.2 (SG_0 hG) (by decide) (by decide) (by omega) go (fo 0 (by decide))
  have r0' := RL_ln (ln' := pg_z P') r0 p3
  rw [← p2] at r0'
  have k1 := RL_go hio.2.2 (SG_1 hG) (by decide) (by decide) (by decide) go (fo 1 (by decide))
  have k2 := RL_go hio.2.2 (SG_2 hG) (by decide) (by decide) (by omega) go (fo 2 (by decide))
  have k3 := RL_go hio.2.2 (SG_3 hG) (by decide) (by decide) (by omega) go (fo 3 (by decide))
  refine ⟨SG_of ⟨(go o hio.1 (SGo_s hG.1)).1, (go o hio.1 (SGo_s hG.1)).2.1.trans hio.2.1, (go o hio.1 (SGo_s hG.1)).2.2.2.1.trans hio.2.2⟩ r0' k1 k2 k3 r4', SMo_cg hG.1 ho (fun z hz _ => hI z hz), SMc_cg hG.2.2 hc (fun z hz _ _ => hI z hz), SMa_cg hG.2.2 b2 ha (fun z hz _ _ => hI z hz), ?_, ?_⟩
  · intro i hi k hk
    rw [p2] at hi
    rw [p3 i hi] at hk
    show mI (wZ M y) (srr S i) k = _
    rw [hI _ (hG.2.2.1 i hi).2.1, hp.1 i hi k hk, p4 i hi k hk]
  · intro k hk j hj
    show mI (wZ M y) (if k = n then x else sro S k) j = _
    by_cases e : k = n
    · subst e
      rw [if_pos rfl, hI x z1, z5 j hj, p5 j hj]
    · have hk2 : k < pg_o P := by omega
      rw [if_neg e, hI _ (hG.2.2.2.2.2.2 k hk2).2.1]
      exact hp.2 k hk2 j hj
end Adds
