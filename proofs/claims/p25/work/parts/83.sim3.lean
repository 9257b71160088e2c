/-! the yard by hand: what stays -/
def Si (rl : Nat → Nat) (x : Nat) : Prop := 0 < rl x ∧ rl x < 10000
/-- all that there is stays; what is not the hand's holds what it held -/
def Kp (G : gS) (M : mS) (rl : Nat → Nat) (G' : gS) (M' : mS) (rl' : Nat → Nat) : Prop := ∀ x, x ∈ gL G → x ∈ gL G' ∧ gK G' x = gK G x ∧ gN G' x = gN G x ∧ rl' x = rl x ∧ (¬ Si rl x → gP G' x = gP G x ∧ mI M' x = mI M x ∧ mJ M' x = mJ M x)
theorem Kp_rf {G : gS} {M : mS} {rl : Nat → Nat} : Kp G M rl G M rl := fun _ hx => ⟨hx, rfl, rfl, rfl, fun _ => ⟨rfl, rfl, rfl⟩⟩
theorem Kp_tr {G G1 G2 : gS} {M M1 M2 : mS} {r r1 r2 : Nat → Nat} (h : Kp G M r G1 M1 r1) (h2 : Kp G1 M1 r1 G2 M2 r2) : Kp G M r G2 M2 r2 := fun x hx => by
  obtain ⟨a1, a2, a3, a4, a5⟩ := h x hx
  obtain ⟨b1, b2, b3, b4, b5⟩ := h2 x a1
  refine ⟨b1, b2.trans a2, b3.trans a3, b4.trans a4, fun hn => ?_⟩
  obtain ⟨c1, c2, c3⟩ := a5 hn
  obtain ⟨d1, d2, d3⟩ := b5 (fun z => hn (by unfold Si at z ⊢; rw [a4] at z; exact z))
  exact ⟨d1.trans c1, d2.trans c2, d3.trans c3⟩
/-- a number gets a role -/
def rU (rl : Nat → Nat) (q r : Nat) : Nat → Nat := fun x => if x = q then r else rl x
theorem rU_eq {rl : Nat → Nat} {q r : Nat} : rU rl q r q = r := if_pos rfl
theorem rU_ne {rl : Nat → Nat} {q r x : Nat} (h : x ≠ q) : rU rl q r x = rl x := if_neg h
theorem mem_ne {G : gS} {x q : Nat} (hx : x ∈ gL G) (hq : q ∉ gL G) : x ≠ q := fun e => hq (e ▸ hx)
theorem Kp_nw {G : gS} {M : mS} {rl : Nat → Nat} {q k n r : Nat} (hq : q ∉ gL G) : Kp G M rl (gNw G q k n) (wZ M q) (rU rl q r) := fun x hx => by
  have ne := mem_ne hx hq
  exact ⟨List.mem_append_left _ hx, up_ne ne, up_ne ne, rU_ne ne, fun _ => ⟨up_ne ne, up_ne ne, up_ne ne⟩⟩
theorem Kp_st {G : gS} {M : mS} {rl : Nat → Nat} {a j r : Nat} (ha : Si rl a) : Kp G M rl (gSt G a j r) M rl := fun x hx => ⟨hx, rfl, rfl, rfl, fun hn => ⟨up_ne (fun e => hn (e ▸ ha)), rfl, rfl⟩⟩
theorem Kp_wI {G : gS} {M : mS} {rl : Nat → Nat} {a j : Nat} {v : Int32} (ha : Si rl a) : Kp G M rl G (wI M a j v) rl := fun x hx => ⟨hx, rfl, rfl, rfl, fun hn => ⟨rfl, by rw [mI_wI, if_neg (fun e : x = a => hn (e ▸ ha))], rfl⟩⟩
theorem Kp_wC {G : gS} {M : mS} {rl : Nat → Nat} {a : Nat} {f : Nat → Int32} (ha : Si rl a) : Kp G M rl G (wC M a f) rl := fun x hx => ⟨hx, rfl, rfl, rfl, fun hn => ⟨rfl, by rw [mI_wC, if_neg (fun e : x = a => hn (e ▸ ha))], rfl⟩⟩
/-- the same for a thing that was not there -/
theorem Kp_wIn {G0 G : gS} {M0 M : mS} {r0 rl : Nat → Nat} {a j : Nat} {v : Int32} (h : Kp G0 M0 r0 G M rl) (ha : a ∉ gL G0) : Kp G0 M0 r0 G (wI M a j v) rl := fun x hx => by
  obtain ⟨a1, a2, a3, a4, a5⟩ := h x hx
  exact ⟨a1, a2, a3, a4, fun hn => ⟨(a5 hn).1, by rw [mI_wI, if_neg (mem_ne hx ha)]; exact (a5 hn).2.1, (a5 hn).2.2⟩⟩
theorem Kp_wCn {G0 G : gS} {M0 M : mS} {r0 rl : Nat → Nat} {a : Nat} {f : Nat → Int32} (h : Kp G0 M0 r0 G M rl) (ha : a ∉ gL G0) : Kp G0 M0 r0 G (wC M a f) rl := fun x hx => by
  obtain ⟨a1, a2, a3, a4, a5⟩ := h x hx
  exact ⟨a1, a2, a3, a4, fun hn => ⟨(a5 hn).1, by rw [mI_wC, if_neg (mem_ne hx ha)]; exact (a5 hn).2.1, (a5 hn).2.2⟩⟩
/-- the shape stays -/
def GK (G : gS) (rl : Nat → Nat) (G' : gS) (rl' : Nat → Nat) : Prop := ∀ x, x ∈ gL G → Si rl x → x ∈ gL G' ∧ gK G' x = gK G x ∧ gN G' x = gN G x ∧ gP G' x = gP G x ∧ rl' x = rl x
theorem GK_rf {G : gS} {rl : Nat → Nat} : GK G rl G rl := fun _ hx _ => ⟨hx, rfl, rfl, rfl, rfl⟩
theorem GK_nw {G : gS} {rl : Nat → Nat} {q k n r : Nat} (hq : q ∉ gL G) : GK G rl (gNw G q k n) (rU rl q r) := fun x hx _ => ⟨List.mem_append_left _ hx, up_ne (mem_ne hx hq), up_ne (mem_ne hx hq), up_ne (mem_ne hx hq), rU_ne (mem_ne hx hq)⟩
section SimKeep
variable {G G' : gS} {M M' : mS} {rl rl' : Nat → Nat} {o : Nat} {S : sA} {P : aP} {q : Nat → Nat → Nat} {Y : aY} {b : uS} {bb n : Nat} {ln : Nat → Nat}
theorem Rw_cg {a i x role len : Nat} (h : Rw G rl a i x role len) (ha : a ∈ gL G) (hs : Si rl a) (h0 : 0 < role) (h1 : role < 10000) (hk : GK G rl G' rl') : Rw G' rl' a i x role len := by
  obtain ⟨r1, r2, r3, r4, r5⟩ := h
  obtain ⟨k1, k2, k3, k4, k5⟩ := hk x r2 (by unfold Si; rw [r4]; exact ⟨h0, h1⟩)
  refine ⟨by rw [(hk a ha hs).2.2.2.1]; exact r1, k1, k2.trans r3, k5.trans r4, k3.trans r5⟩
theorem SGo_s (h : SGo G rl o S) : Si rl o := by unfold Si; rw [h.1.2.2]; decide
theorem SGo_g (h : SGo G rl o S) {i : Nat} (hi : i < 5) : sg S i ∈ gL G ∧ Si rl (sg S i) ∧ rl (sg S i) = 2 + i := by
  obtain ⟨_, h2, _, h4⟩ := h.2 i hi
  exact ⟨h2, by unfold Si; rw [h4]; omega, h4⟩
/-- how many rules, ants, orders there may be -/
def SGb (P : aP) (n : Nat) : Prop := pg_r P < 100 ∧ n < 100 ∧ pg_o P < 100
theorem SG_cg (hb : SGb P n) (h : SG G rl o S P n ln) (hk : GK G rl G' rl') : SG G' rl' o S P n ln := by
  obtain ⟨h1, h2, h3⟩ := h
  obtain ⟨b1, b2, b3⟩ := hb
  have ho := hk o h1.1.1 (SGo_s h1)
  have hg : ∀ i, i < 5 → _ := fun i hi => hk (sg S i) (SGo_g h1 hi).1 (SGo_g h1 hi).2.1
  refine ⟨⟨⟨ho.1, ho.2.1.trans h1.1.2.1, ho.2.2.2.2.trans h1.1.2.2⟩, fun i hi => ?_⟩, ?_, ?_⟩
  · obtain ⟨g1, g2, g3, g4⟩ := h1.2 i hi
    have k := hg i hi
    exact ⟨by rw [ho.2.2.2.1]; exact g1, k.1, k.2.1.trans g3, k.2.2.2.2.trans g4⟩
  · obtain ⟨n1, n2, n3, n4, n5⟩ := h2
    exact ⟨(hg 0 (by decide)).2.2.1.trans n1, (hg 1 (by decide)).2.2.1.trans n2, (hg 2 (by decide)).2.2.1.trans n3, (hg 3 (by decide)).2.2.1.trans n4, (hg 4 (by decide)).2.2.1.trans n5⟩
  · obtain ⟨r1, r2, r3, r4, r5⟩ := h3
    have g0 := SGo_g h1 (i := 0) (by decide)
    have g1 := SGo_g h1 (i := 1) (by decide)
    have g2 := SGo_g h1 (i := 2) (by decide)
    have g3 := SGo_g h1 (i := 3) (by decide)
    have g4 := SGo_g h1 (i := 4) (by decide)
    exact ⟨fun i hi => Rw_cg (r1 i hi) g0.1 g0.2.1 (by omega) (by omega) hk, fun i hi => Rw_cg (r2 i hi) g1.1 g1.2.1 (by omega) (by omega) hk, fun i hi => Rw_cg (r3 i hi) g2.1 g2.2.1 (by omega) (by omega) hk, fun i hi => Rw_cg (r4 i hi) g3.1 g3.2.1 (by omega) (by omega) hk, fun i hi => Rw_cg (r5 i hi) g4.1 g4.2.1 (by omega) (by omega) hk⟩
theorem SMo_cg (hG : SGo G rl o S) (h : SMo M o Y) (hI : ∀ x, x ∈ gL G → rl x = 1 → mI M' x = mI M x) : SMo M' o Y := by
  unfold SMo at h ⊢
  rw [hI o hG.1.1 hG.1.2.2]
  exact h
theorem SMc_cg (hG : SGr G rl S P n ln) {c : Nat → Nat} (h : SMc M S c) (hI : ∀ x, x ∈ gL G → 2000 ≤ rl x → rl x < 2064 → mI M' x = mI M x) : SMc M' S c := fun r hr x hx => by
  obtain ⟨_, r2, _, r4, _⟩ := hG.2.1 r hr
  rw [hI _ r2 (by omega) (by omega)]
  exact h r hr x hx
theorem SMa_cg (hG : SGr G rl S P n ln) (hn : n < 100) {a : Nat → aA} (h : SMa M S n a) (hI : ∀ x, x ∈ gL G → 3000 ≤ rl x → rl x < 4100 → mI M' x = mI M x) : SMa M' S n a := fun i hi => by
  obtain ⟨_, r2, _, r4, _⟩ := hG.2.2.1 i hi
  obtain ⟨_, p2, _, p4, _⟩ := hG.2.2.2.1 i hi
  obtain ⟨h1, h2⟩ := h i hi
  refine ⟨?_, fun k hk => ?_⟩
  · unfold aRow at h1 ⊢
    rw [hI _ r2 (by omega) (by omega)]
    exact h1
  · rw [hI _ p2 (by omega) (by omega)]
    exact h2 k hk
theorem SMp_cg (hG : SGr G rl S P n ln) (hb : SGb P n) (h : SMp M S P q) (hI : ∀ x, x ∈ gL G → (1000 ≤ rl x ∧ rl x < 1100) ∨ (5000 ≤ rl x ∧ rl x < 5100) → mI M' x = mI M x) : SMp M' S P q := by
  obtain ⟨b1, b2, b3⟩ := hb
  refine ⟨fun i hi k hk => ?_, fun k hk j hj => ?_⟩
  · obtain ⟨_, r2, _, r4, _⟩ := hG.1 i hi
    rw [hI _ r2 (Or.inl ⟨by omega, by omega⟩)]
    exact h.1 i hi k hk
  · obtain ⟨_, r2, _, r4, _⟩ := hG.2.2.2.2 k hk
    rw [hI _ r2 (Or.inr ⟨by omega, by omega⟩)]
    exact h.2 k hk j hj
/-- all of it stays, if nothing of the hand's changes -/
theorem SM_cg (hb : SGb P (yd_n Y)) (h : SM G M rl o S P q Y) (hk : GK G rl G' rl') (hI : ∀ x, x ∈ gL G → Si rl x → mI M' x = mI M x) : SM G' M' rl' o S P q Y := by
  have s : ∀ x, 0 < rl x → rl x < 10000 → Si rl x := fun x h1 h2 => ⟨h1, h2⟩
  refine ⟨SG_cg hb h.1 hk, SMo_cg h.1.1 h.2.1 (fun x hx e => hI x hx (s x (by omega) (by omega))), SMc_cg h.1.2.2 h.2.2.1 (fun x hx e1 e2 => hI x hx (s x (by omega) (by omega))), SMa_cg h.1.2.2 hb.2.1 h.2.2.2.1 (fun x hx e1 e2 => hI x hx (s x (by omega) (by omega))), SMp_cg h.1.2.2 hb h.2.2.2.2 (fun x hx e => hI x hx (s x (by omega) (by omega)))⟩
/-- a row of the yard is another -/
def stY (S : sA) (r x : Nat) : sA := (sg S, srr S, fun k => if k = r then x else sry S k, sra S, srp S, sro S)
def stP (S : sA) (i x : Nat) : sA := (sg S, srr S, sry S, sra S, fun k => if k = i then x else srp S k, sro S)
theorem gSt_ne {a j r x : Nat} (h : x ≠ a) : gP (gSt G a j r) x = gP G x := up_ne h
theorem gSt_eq {a j r k : Nat} : gP (gSt G a j r) a k = if k = j then some r else gP G a k := by
  show va_up (gP G) a (va_up (gP G a) j (some r)) a k = _
  rw [up_eq]
  by_cases e : k = j
  · subst e; rw [up_eq, if_pos rfl]
  · rw [up_ne e, if_neg e]
theorem Rw_st {a j r i x role len c : Nat} (h : Rw G rl a i x role len) (ha : a ≠ c) : Rw (gSt G c j r) rl a i x role len := ⟨by rw [gSt_ne ha]; exact h.1, h.2⟩
theorem Rw_st2 {a j r i x role len : Nat} (h : Rw G rl a i x role len) (ha : i ≠ j) : Rw (gSt G a j r) rl a i x role len := ⟨by rw [gSt_eq, if_neg ha]; exact h.1, h.2⟩
theorem SGo_st (h : SGo G rl o S) {j r i : Nat} (hi : i < 5) : SGo (gSt G (sg S i) j r) rl o S := ⟨h.1, fun k hk => ⟨by rw [gSt_ne (fun e => by have := h.1.2.2; rw [e, (SGo_g h hi).2.2] at this; omega)]; exact (h.2 k hk).1, (h.2 k hk).2⟩⟩
theorem SG_ne (h : SGo G rl o S) {i j : Nat} (hi : i < 5) (hj : j < 5) (hij : i ≠ j) : sg S i ≠ sg S j := fun e => by
  have h1 := (SGo_g h hi).2.2
  have h2 := (SGo_g h hj).2.2
  rw [e] at h1
  omega
theorem SG_y (h : SG G rl o S P n ln) {r x : Nat} (hr : r < 64) (h1 : x ∈ gL G) (h2 : gK G x = 12) (h3 : rl x = 2000 + r) (h4 : gN G x = 64) : SG (gSt G (sg S 1) r x) rl o (stY S r x) P n ln := by
  obtain ⟨g1, g2, g3⟩ := h
  have ne : ∀ {i : Nat}, i < 5 → i ≠ 1 → sg S i ≠ sg S 1 := fun hi hne => SG_ne g1 hi (by decide) hne
  refine ⟨SGo_st g1 (by decide), g2, fun i hi => Rw_st (g3.1 i hi) (ne (by decide) (by decide)), fun k hk => ?_, fun i hi => Rw_st (g3.2.2.1 i hi) (ne (by decide) (by decide)), fun i hi => Rw_st (g3.2.2.2.1 i hi) (ne (by decide) (by decide)), fun i hi => Rw_st (g3.2.2.2.2 i hi) (ne (by decide) (by decide))⟩
  show Rw (gSt G (sg S 1) r x) rl (sg S 1) k (if k = r then x else sry S k) (2000 + k) 64
  by_cases e : k = r
  · subst e
    rw [if_pos rfl]
    exact ⟨by rw [gSt_eq, if_pos rfl], h1, h2, h3, h4⟩
  · rw [if_neg e]
    exact Rw_st2 (g3.2.1 k hk) e
theorem SG_p (h : SG G rl o S P n ln) {i x : Nat} (hi : i < n) (h1 : x ∈ gL G) (h2 : gK G x = 12) (h3 : rl x = 4000 + i) : SG (gSt G (sg S 3) i x) rl o (stP S i x) P n (fun k => if k = i then gN G x else ln k) := by
  obtain ⟨g1, g2, g3⟩ := h
  have ne : ∀ {i : Nat}, i < 5 → i ≠ 3 → sg S i ≠ sg S 3 := fun hi hne => SG_ne g1 hi (by decide) hne
  refine ⟨SGo_st g1 (by decide), g2, fun i hi => Rw_st (g3.1 i hi) (ne (by decide) (by decide)), fun i hi => Rw_st (g3.2.1 i hi) (ne (by decide) (by decide)), fun i hi => Rw_st (g3.2.2.1 i hi) (ne (by decide) (by decide)), fun k hk => ?_, fun i hi => Rw_st (g3.2.2.2.2 i hi) (ne (by decide) (by decide))⟩
  show Rw (gSt G (sg S 3) i x) rl (sg S 3) k (if k = i then x else srp S k) (4000 + k) (if k = i then gN G x else ln k)
  by_cases e : k = i
  · subst e
    rw [if_pos rfl, if_pos rfl]
    exact ⟨by rw [gSt_eq, if_pos rfl], h1, h2, h3, rfl⟩
  · rw [if_neg e, if_neg e]
    exact Rw_st2 (g3.2.2.2.1 k hk) e
end SimKeep
/-- what of the places stays -/
def SE (S S' : sA) : Prop := sg S' = sg S ∧ srr S' = srr S ∧ sra S' = sra S ∧ sro S' = sro S
theorem SE_rf {S : sA} : SE S S := ⟨rfl, rfl, rfl, rfl⟩
theorem SE_tr {S S1 S2 : sA} (h : SE S S1) (h2 : SE S1 S2) : SE S S2 := ⟨h2.1.trans h.1, h2.2.1.trans h.2.1, h2.2.2.1.trans h.2.2.1, h2.2.2.2.trans h.2.2.2⟩
