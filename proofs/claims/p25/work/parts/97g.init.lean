/-! the hand's yard, new -/
/-- roles of new rows, from t on -/
def rMt (t : Nat) (rl : Nat → Nat) (f : Nat → Nat) : Nat → Nat → Nat
  | 0 => rl
  | k + 1 => rU (rMt t rl f k) (f k) (t + k)
theorem rMt_ne {t : Nat} {rl : Nat → Nat} {f : Nat → Nat} {x : Nat} : ∀ n : Nat, (∀ i, i < n → x ≠ f i) → rMt t rl f n x = rl x := by
  intro n
  induction n with
  | zero => exact fun _ => rfl
  | succ n ih =>
    intro h
    rw [rMt, rU_ne (h n (by omega))]
    exact ih (fun i hi => h i (by omega))
theorem rMt_at {t : Nat} {rl : Nat → Nat} {f : Nat → Nat} : ∀ n : Nat, (∀ i j : Nat, i < n → j < n → f i = f j → i = j) → ∀ i, i < n → rMt t rl f n (f i) = t + i := by
  intro n
  induction n with
  | zero => exact fun _ i hi => absurd hi (Nat.not_lt_zero i)
  | succ n ih =>
    intro h i hi
    rw [rMt]
    by_cases e : i = n
    · subst e; exact rU_eq
    · rw [rU_ne (fun z => e (h i n hi (by omega) z))]
      exact ih (fun i j a b c => h i j (by omega) (by omega) c) i (by omega)
def pzK (w : Nat → Nat) : Nat := if w 0 = 0 then 214 else if w 0 = 1 then 216 else if w 0 = 2 then 217 else 218
def pzS (w : Nat → Nat) : Nat := if w 0 ≤ 1 then w 2 else 0
/-- a test's operations -/
def pzT (w : Nat → Nat) : List aO :=
  if w 3 = 0 then [(221, 0), (3, zn (w 4)), (62, 0)]
  else if w 3 = 1 then [(220, 0), (220, 0), (3, zn (w 4)), (47, 0), (3, zn (w 4)), (42, 0), (45, 0), (3, zn (w 5)), (61, 0)]
  else if w 3 = 2 then [(222, zn (w 4)), (3, zn (w 5)), (60, 0), (226, zn (w 4)), (230, 0)]
  else if w 3 = 3 then [(224, zn (w 4)), (3, zn 0), (62, 0), (227, zn (w 4)), (228, 0), (229, 0)]
  else [(3, zn (w 4)), (225, 0), (223, zn (w 5)), (3, zn 8), (47, 0), (43, 0), (3, zn 5), (129, 0)]
/-- r rules, k orders -/
def pzD (D : va_G) (r k : Nat) : aP := (r, zZ D, zT D, k, fun i => pzK (zQ D i), fun i => zQ D i 1, fun i => pzS (zQ D i), fun i => pzT (zQ D i))
def zA (D : va_G) (a : Nat) : aA := (zAr D a, zAx D a, zAy D a, zAs D a, 1, 0, 0, fun _ => 0)
def zC (D : va_G) : Nat → Nat → Nat
  | 0 => fun _ => 0
  | j + 1 => cSet (zC D j) (64 * zPr D (zPn D - j) + zPc D (zPn D - j)) (zPv D (zPn D - j))
/-- n ants, j stones painted -/
def yzD (D : va_G) (n j : Nat) : aY := (zC D j, n, zA D, 0, 0, 0, 0)
theorem zC_lt {D : va_G} : ∀ j p : Nat, zC D j p < 6 := by
  intro j
  induction j with
  | zero => intro p; show 0 < 6; decide
  | succ j ih => exact cSet_lt ih zPv_b
section Init
variable {D : va_G} {G : gS} {M : mS} {rl : Nat → Nat} {o a v cap r : Nat} {L : List Nat} {b : uS}
theorem RL_new {j q role : Nat} {row ln : Nat → Nat} (hj : j < 5) (hq : q ∉ gL G) : RwL (gSt (gNw G q 15 0) o (4 + j) q) (rU rl q (2 + j)) o j q 0 row role ln := ⟨⟨by rw [gSt_eq, if_pos rfl], gL_nw (k := 15) (n := 0), gK_nw (n := 0), rU_eq, gN_nw (k := 15)⟩, fun i hi => absurd hi (Nat.not_lt_zero i)⟩
theorem wMn_f {x n : Nat} {f : Nat → Nat} {i : Nat} (hi : i < n) : mI (wMn M x n f) (f i) = fun _ => 0 := vr_up_in (mem_f.mpr ⟨i, hi, rfl⟩)
theorem RL_mn {q : Nat} {f : Nat → Nat} (hj : ∀ i j : Nat, i < 64 → j < 64 → f i = f j → i = j) (hf : ∀ i : Nat, i < 64 → f i ∉ gL G ∧ f i ≠ q) (hfo : ∀ i : Nat, i < 64 → f i ≠ o) (hqo : q ≠ o) : RwL (gSt (gMn G q 64 64 f) o 5 q) (rU (rMt 2000 rl f 64) q 3) o 1 q 64 f 2000 (fun _ => 64) := by
  obtain ⟨x1, x2, x3⟩ := mn_x (G := G) (x := q) (n := 64) (r := 64) (f := f) hf
  have nq : q ∉ (List.range 64).map f := fun h => by
    obtain ⟨i, hi, e⟩ := mem_f.mp h
    exact (hf i hi).2 e
  refine ⟨⟨by rw [gSt_eq, if_pos rfl], x1, (vr_up_ne nq).trans up_eq, rU_eq, x2⟩, fun i hi => ?_⟩
  obtain ⟨f1, f2⟩ := mn_f (G := G) (x := q) (n := 64) (r := 64) (f := f) hi
  refine ⟨by rw [gSt_ne hqo]; exact x3 i hi, f1, vr_up_in (mem_f.mpr ⟨i, hi, rfl⟩), ?_, f2⟩
  rw [rU_ne (hf i hi).2]
  exact rMt_at 64 hj i hi
theorem GO_mn {q n r t s : Nat} {f : Nat → Nat} (hq : q ∉ gL G) (hf : ∀ i : Nat, i < n → f i ∉ gL G ∧ f i ≠ q) : GO G rl o (gMn G q n r f) (rU (rMt t rl f n) q s) := fun y hy _ => by
  obtain ⟨a1, a2, a3, a4, a5, a6, a7⟩ := mn_old (M := M00) (rl := rl) (r := r) hq hf hy
  exact ⟨a1, a2, a3, by rw [rU_ne (mem_ne hy hq)]; exact rMt_ne n (fun i hi e => (hf i hi).1 (e ▸ hy)), fun _ => a4⟩
theorem TB_mn {q n k t s : Nat} {f : Nat → Nat} (h : TB G M rl r a v cap L) (hq : q ∉ gL G) (hf : ∀ i : Nat, i < n → f i ∉ gL G ∧ f i ≠ q) : TB (gMn G q n k f) (wMn M q n f) (rU (rMt t rl f n) q s) r a v cap L := TB_cg h (fun y hy _ => by
  obtain ⟨a1, a2, a3, a4, a5, a6, a7⟩ := mn_old (M := M) (rl := rl) (r := k) hq hf hy
  exact ⟨a1, a3, a4, a5, by rw [rU_ne (mem_ne hy hq)]; exact rMt_ne n (fun i hi e => (hf i hi).1 (e ▸ hy))⟩)
theorem nat_64 : Int32.toNatClampNeg (64 : Int32) = 64 := by decide
theorem s_init (ho : o ∈ gL G ∧ gK G o = 9 ∧ rl o = 1) (hz : ∀ j, j < 4 → mI M o j = 0) (h : TB G M rl r a v cap L) (hr : 10000 ≤ r) (hB : uL (69, 4160) b) {post : gS → mS → Unit → Prop} (hk : ∀ G' M' rl' S', SM G' M' rl' o S' (pzD D 0 0) (zQ D) (yzD D 0 0) → TB G' M' rl' r a v cap L → post G' M' ()) : n_X10_init b G M o post := by
  unfold n_X10_init
  have so : ∀ {r : Nat → Nat}, r o = 1 → Si r o := fun e => by unfold Si; rw [e]; decide
  refine i_na (N := 0) rfl (by decide) (uL_tr ⟨by decide, by decide⟩ hB) (fun q1 h1 => i_sR ?_)
  have n1 : o ≠ q1 := mem_ne ho.1 h1
  have R0 : RwL (gSt (gNw G q1 15 0) o 4 q1) (rU rl q1 2) o 0 q1 0 (fun _ => 0) 1000 (zZ D) := RL_new (j := 0) (by decide) h1
  have g1 : GO G rl o (gSt (gNw G q1 15 0) o 4 q1) (rU rl q1 2) := GO_tr (GO_nw h1) GO_st
  have o1 := g1 o ho.1 (so ho.2.2)
  have t1 := TB_st (x := o) (j := 4) (y := q1) (TB_nw (k := 15) (n := 0) (s := 2) h h1) (by rw [rU_ne n1]; omega) (by rw [rU_ne n1]; omega)
  generalize gSt (gNw G q1 15 0) o 4 q1 = G1 at *
  have or1 : rU rl q1 2 o = 1 := o1.2.2.2.1.trans ho.2.2
  generalize rU rl q1 2 = rl1 at *
  unfold q_mn
  rw [nat_64]
  refine ⟨⟨by decide, by decide, by decide, by decide⟩, uL_tr ⟨by decide, by decide⟩ hB, fun q2 f h2 hj hf => i_sR ?_⟩
  have n2 : o ≠ q2 := mem_ne o1.1 h2
  have R1 : RwL (gSt (gMn G1 q2 64 64 f) o 5 q2) (rU (rMt 2000 rl1 f 64) q2 3) o 1 q2 64 f 2000 (fun _ => 64) := RL_mn hj hf (fun i hi e => (hf i hi).1 (e ▸ o1.1)) (fun e => n2 e.symm)
  have g2 : GO G1 rl1 o (gSt (gMn G1 q2 64 64 f) o 5 q2) (rU (rMt 2000 rl1 f 64) q2 3) := GO_tr (GO_mn h2 hf) GO_st
  have mo2 : mI (wMn (wZ M q1) q2 64 f) o = mI M o := (mn_old (M := wZ M q1) (rl := rl1) (r := 64) h2 hf o1.1).2.2.2.2.1.trans (wZ_ne n1)
  have mf2 : ∀ i, i < 64 → mI (wMn (wZ M q1) q2 64 f) (f i) = fun _ => 0 := fun i hi => wMn_f hi
  have o2 := g2 o o1.1 (so or1)
  have or2 : rU (rMt 2000 rl1 f 64) q2 3 o = 1 := o2.2.2.2.1.trans or1
  have R0 := RL_go or1 R0 (by decide) (by decide) (by decide) g2 (by rw [gSt_eq, if_neg (by decide)]; exact congrFun (mn_old (M := M00) (rl := rl1) (r := 64) h2 hf o1.1).2.2.2.1 _)
  have t2 := TB_st (x := o) (j := 5) (y := q2) (TB_mn (k := 64) (t := 2000) (s := 3) t1 h2 hf) (by rw [or2]; omega) (by rw [or2]; omega)
  generalize gSt (gMn G1 q2 64 64 f) o 5 q2 = G2 at *
  generalize wMn (wZ M q1) q2 64 f = M2 at *
  generalize rU (rMt 2000 rl1 f 64) q2 3 = rl2 at *
  refine i_na (N := 0) rfl (by decide) (uL_tr ⟨by decide, by decide⟩ hB) (fun q3 h3 => i_sR ?_)
  have n3 : o ≠ q3 := mem_ne o2.1 h3
  have f3 : ∀ i, i < 64 → f i ≠ q3 := fun i hi => mem_ne (R1.2 i hi).2.1 h3
  have R2 : RwL (gSt (gNw G2 q3 15 0) o 6 q3) (rU rl2 q3 4) o 2 q3 0 (fun _ => 0) 3000 (fun _ => 6) := RL_new (j := 2) (by decide) h3
  have g3 : GO G2 rl2 o (gSt (gNw G2 q3 15 0) o 6 q3) (rU rl2 q3 4) := GO_tr (GO_nw h3) GO_st
  have fo3 : ∀ j, j ≠ 2 → gP (gSt (gNw G2 q3 15 0) o 6 q3) o (4 + j) = gP G2 o (4 + j) := fun j hj => by rw [gSt_eq, if_neg (by omega)]; exact congrFun (up_ne n3) _
  have o3 := g3 o o2.1 (so or2)
  have or3 : rU rl2 q3 4 o = 1 := o3.2.2.2.1.trans or2
  have R0 := RL_go or2 R0 (by decide) (by decide) (by decide) g3 (fo3 0 (by decide))
  have R1 := RL_go or2 R1 (by decide) (by decide) (by decide) g3 (fo3 1 (by decide))
  have t3 := TB_st (x := o) (j := 6) (y := q3) (TB_nw (k := 15) (n := 0) (s := 4) t2 h3) (by rw [or3]; omega) (by rw [or3]; omega)
  have mo3 : mI (wZ M2 q3) o = mI M o := (wZ_ne n3).trans mo2
  have mf3 : ∀ i, i < 64 → mI (wZ M2 q3) (f i) = fun _ => 0 := fun i hi => (wZ_ne (f3 i hi)).trans (mf2 i hi)
  generalize gSt (gNw G2 q3 15 0) o 6 q3 = G3 at *
  generalize wZ M2 q3 = M3 at *
  generalize rU rl2 q3 4 = rl3 at *
  refine i_na (N := 0) rfl (by decide) (uL_tr ⟨by decide, by decide⟩ hB) (fun q4 h4 => i_sR ?_)
  have n4 : o ≠ q4 := mem_ne o3.1 h4
  have f4 : ∀ i, i < 64 → f i ≠ q4 := fun i hi => mem_ne (R1.2 i hi).2.1 h4
  have R3 : RwL (gSt (gNw G3 q4 15 0) o 7 q4) (rU rl3 q4 5) o 3 q4 0 (fun _ => 0) 4000 (fun i => an_n (yd_a (yzD D 0 0) i)) := RL_new (j := 3) (by decide) h4
  have g4 : GO G3 rl3 o (gSt (gNw G3 q4 15 0) o 7 q4) (rU rl3 q4 5) := GO_tr (GO_nw h4) GO_st
  have fo4 : ∀ j, j ≠ 3 → gP (gSt (gNw G3 q4 15 0) o 7 q4) o (4 + j) = gP G3 o (4 + j) := fun j hj => by rw [gSt_eq, if_neg (by omega)]; exact congrFun (up_ne n4) _
  have o4 := g4 o o3.1 (so or3)
  have or4 : rU rl3 q4 5 o = 1 := o4.2.2.2.1.trans or3
  have R0 := RL_go or3 R0 (by decide) (by decide) (by decide) g4 (fo4 0 (by decide))
  have R1 := RL_go or3 R1 (by decide) (by decide) (by decide) g4 (fo4 1 (by decide))
  have R2 := RL_go or3 R2 (by decide) (by decide) (by decide) g4 (fo4 2 (by decide))
  have t4 := TB_st (x := o) (j := 7) (y := q4) (TB_nw (k := 15) (n := 0) (s := 5) t3 h4) (by rw [or4]; omega) (by rw [or4]; omega)
  have mo4 : mI (wZ M3 q4) o = mI M o := (wZ_ne n4).trans mo3
  have mf4 : ∀ i, i < 64 → mI (wZ M3 q4) (f i) = fun _ => 0 := fun i hi => (wZ_ne (f4 i hi)).trans (mf3 i hi)
  generalize gSt (gNw G3 q4 15 0) o 7 q4 = G4 at *
  generalize wZ M3 q4 = M4 at *
  generalize rU rl3 q4 5 = rl4 at *
  refine i_na (N := 0) rfl (by decide) (uL_tr ⟨by decide, by decide⟩ hB) (fun q5 h5 => i_sR ?_)
  have n5 : o ≠ q5 := mem_ne o4.1 h5
  have f5 : ∀ i, i < 64 → f i ≠ q5 := fun i hi => mem_ne (R1.2 i hi).2.1 h5
  have R4 : RwL (gSt (gNw G4 q5 15 0) o 8 q5) (rU rl4 q5 6) o 4 q5 0 (fun _ => 0) 5000 (fun _ => 6) := RL_new (j := 4) (by decide) h5
  have g5 : GO G4 rl4 o (gSt (gNw G4 q5 15 0) o 8 q5) (rU rl4 q5 6) := GO_tr (GO_nw h5) GO_st
  have fo5 : ∀ j, j ≠ 4 → gP (gSt (gNw G4 q5 15 0) o 8 q5) o (4 + j) = gP G4 o (4 + j) := fun j hj => by rw [gSt_eq, if_neg (by omega)]; exact congrFun (up_ne n5) _
  have o5 := g5 o o4.1 (so or4)
  have or5 : rU rl4 q5 6 o = 1 := o5.2.2.2.1.trans or4
  have R0 := RL_go or4 R0 (by decide) (by decide) (by decide) g5 (fo5 0 (by decide))
  have R1 := RL_go or4 R1 (by decide) (by decide) (by decide) g5 (fo5 1 (by decide))
  have R2 := RL_go or4 R2 (by decide) (by decide) (by decide) g5 (fo5 2 (by decide))
  have R3 := RL_go or4 R3 (by decide) (by decide) (by decide) g5 (fo5 3 (by decide))
  have t5 := TB_st (x := o) (j := 8) (y := q5) (TB_nw (k := 15) (n := 0) (s := 6) t4 h5) (by rw [or5]; omega) (by rw [or5]; omega)
  have mo5 : mI (wZ M4 q5) o = mI M o := (wZ_ne n5).trans mo4
  have mf5 : ∀ i, i < 64 → mI (wZ M4 q5) (f i) = fun _ => 0 := fun i hi => (wZ_ne (f5 i hi)).trans (mf4 i hi)
  have hko : gK (gSt (gNw G4 q5 15 0) o 8 q5) o = 9 := by
    rw [o5.2.1, o4.2.1, o3.2.1, o2.2.1, o1.2.1]
    exact ho.2.1
  refine hk _ _ (rU rl4 q5 6) ((fun i => if i = 0 then q1 else if i = 1 then q2 else if i = 2 then q3 else if i = 3 then q4 else q5), (fun _ => 0), f, (fun _ => 0), (fun _ => 0), (fun _ => 0)) ⟨SG_of ⟨o5.1, hko, or5⟩ R0 R1 R2 R3 R4, ⟨?_, ?_, ?_, ?_⟩, fun r hr x _ => ?_, fun i hi => absurd hi (Nat.not_lt_zero i), fun i hi => absurd hi (Nat.not_lt_zero i), fun i hi => absurd hi (Nat.not_lt_zero i)⟩ t5
  · rw [mo5]; exact hz 0 (by decide)
  · rw [mo5]; exact hz 1 (by decide)
  · rw [mo5]; exact hz 2 (by decide)
  · rw [mo5]; exact hz 3 (by decide)
  · show mI (wZ M4 q5) (f r) x = _
    rw [mf5 r hr]
    rfl
end Init
