/-! the program that is read: typed, and what it does is what the hand does -/
section Prg
variable {n k i : Nat} {v : Int32} {st r : List Bool} {L : List aO} {o : aO}
theorem ty_c {st' : List Bool} (h : ty1 n o st = some st') : tyL n (o :: L) st = tyL n L st' := by rw [tyL, h]; rfl
theorem ty_push (h : opc k = 1 ∨ opc k = 2) (hl : st.length < 64) : ty1 n (k, v) st = some (false :: st) := by
  unfold ty1
  rw [if_pos h, if_pos hl]
theorem ty_ant (h : opc k = 3) (hl : st.length < 64) (hi : i < n) (hn : n ≤ 100) : ty1 n (k, zn i) st = some (false :: st) := by
  unfold ty1
  rw [if_neg (by show ¬ (opc k = 1 ∨ opc k = 2); rw [h]; decide), if_pos h, if_pos ⟨hl, zn_nn (by omega), by rw [zn_nat (by omega)]; exact hi⟩]
theorem ty_tst (h : opc k = 4) (hl : st.length < 64) (hi : i < n) (hn : n ≤ 100) : ty1 n (k, zn i) st = some (true :: st) := by
  unfold ty1
  rw [if_neg (by show ¬ (opc k = 1 ∨ opc k = 2); rw [h]; decide), if_neg (by show ¬ opc k = 3; rw [h]; decide), if_pos h, if_pos ⟨hl, zn_nn (by omega), by rw [zn_nat (by omega)]; exact hi⟩]
theorem ty_5 (h : opc k = 5) : ty1 n (k, v) (false :: r) = some (false :: r) := by
  unfold ty1
  dsimp only
  rw [h]
  rfl
theorem ty_6 (h : opc k = 6) : ty1 n (k, v) (true :: r) = some (true :: r) := by
  unfold ty1
  dsimp only
  rw [h]
  rfl
theorem ty_7 (h : opc k = 7) : ty1 n (k, v) (false :: false :: r) = some (false :: r) := by
  unfold ty1
  dsimp only
  rw [h]
  rfl
theorem ty_8 (h : opc k = 8) : ty1 n (k, v) (false :: false :: r) = some (true :: r) := by
  unfold ty1
  dsimp only
  rw [h]
  rfl
theorem ty_9 (h : opc k = 9) : ty1 n (k, v) (true :: true :: r) = some (true :: r) := by
  unfold ty1
  dsimp only
  rw [h]
  rfl
theorem pzV_ty {w : Nat → Nat} {v0 v1 : Int32} (hw : vO n w) : tyL n (pzV w v0 v1) [] = some [true] := by
  obtain ⟨hn, hW, ⟨t1, t2, t3, t4, t5, t6, t7⟩, h10⟩ := hw
  unfold pzV
  by_cases e0 : w 3 = 0
  · rw [if_pos e0]
    exact (ty_c (ty_push (by decide) (by decide))).trans ((ty_c (ty_push (by decide) (by decide))).trans ((ty_c (ty_8 (by decide))).trans rfl))
  rw [if_neg e0]
  by_cases e1 : w 3 = 1
  · rw [if_pos e1]
    exact (ty_c (ty_push (by decide) (by decide))).trans ((ty_c (ty_push (by decide) (by decide))).trans ((ty_c (ty_push (by decide) (by decide))).trans ((ty_c (ty_7 (by decide))).trans ((ty_c (ty_push (by decide) (by decide))).trans ((ty_c (ty_7 (by decide))).trans ((ty_c (ty_7 (by decide))).trans ((ty_c (ty_push (by decide) (by decide))).trans ((ty_c (ty_8 (by decide))).trans rfl))))))))
  rw [if_neg e1]
  by_cases e2 : w 3 = 2
  · rw [if_pos e2]
    have hi := t5 e2
    exact (ty_c (ty_ant (by decide) (by decide) hi (by omega))).trans ((ty_c (ty_push (by decide) (by decide))).trans ((ty_c (ty_8 (by decide))).trans ((ty_c (ty_tst (by decide) (by decide) hi (by omega))).trans ((ty_c (ty_9 (by decide))).trans rfl))))
  rw [if_neg e2]
  by_cases e3 : w 3 = 3
  · rw [if_pos e3]
    have hi := t6 e3
    exact (ty_c (ty_ant (by decide) (by decide) hi (by omega))).trans ((ty_c (ty_push (by decide) (by decide))).trans ((ty_c (ty_8 (by decide))).trans ((ty_c (ty_tst (by decide) (by decide) hi (by omega))).trans ((ty_c (ty_6 (by decide))).trans ((ty_c (ty_9 (by decide))).trans rfl)))))
  · rw [if_neg e3]
    have hi := t7 (by omega)
    exact (ty_c (ty_push (by decide) (by decide))).trans ((ty_c (ty_5 (by decide))).trans ((ty_c (ty_ant (by decide) (by decide) hi (by omega))).trans ((ty_c (ty_push (by decide) (by decide))).trans ((ty_c (ty_7 (by decide))).trans ((ty_c (ty_7 (by decide))).trans ((ty_c (ty_push (by decide) (by decide))).trans ((ty_c (ty_8 (by decide))).trans rfl)))))))
theorem i01 {c : Prop} [Decidable c] {b : Bool} (h : c ↔ b = true) : ((if c then (1 : Int32) else 0) = 0 ↔ b = false) := by
  by_cases e : c
  · rw [if_pos e, h.mp e]; decide
  · rw [if_neg e]
    have : b = false := by
      cases b with
      | false => rfl
      | true => exact absurd (h.mpr rfl) e
    rw [this]; decide
theorem i_or {a b : Bool} : ((if a then (1 : Int32) else 0) ||| (if b then (1 : Int32) else 0) = 0 ↔ (a || b) = false) := by cases a <;> cases b <;> decide
theorem i_an {a b : Bool} : ((if a then (1 : Int32) else 0) &&& (if b then (1 : Int32) else 0) = 0 ↔ (a && b) = false) := by cases a <;> cases b <;> decide
theorem i_dec {c : Prop} [Decidable c] : (if c then (1 : Int32) else 0) = if decide c then 1 else 0 := by
  by_cases e : c
  · rw [if_pos e, decide_eq_true e]; rfl
  · rw [if_neg e, decide_eq_false e]; rfl
theorem pzV_ev {w : Nat → Nat} {v0 v1 : Int32} (hw : vO n w) {Y : aY} (en : yd_n Y = n) (hv : vY 100000 Y) (ht : yd_t Y < 100000) : ((evL Y (pzV w v0 v1) []).headD 0 = 0 ↔ sHB Y w = false) := by
  obtain ⟨hn, hW, ⟨t1, t2, t3, t4, t5, t6, t7⟩, h10⟩ := hw
  have hd := dk_le (c := yd_c Y)
  unfold pzV sHB
  by_cases e0 : w 3 = 0
  · rw [if_pos e0, if_pos e0]
    have e : (evL Y [(221, v0), (3, zn (w 4)), (62, 0)] []).headD 0 = if zn (w 4) < zn (dk (yd_c Y)) then 1 else 0 := rfl
    rw [e]
    exact i01 (by rw [zn_lt (by omega) (by omega), decide_eq_true_iff])
  rw [if_neg e0, if_neg e0]
  by_cases e1 : w 3 = 1
  · rw [if_pos e1, if_pos e1]
    have hp := t4 e1
    have e : (evL Y [(220, v0), (220, v1), (3, zn (w 4)), (47, 0), (3, zn (w 4)), (42, 0), (45, 0), (3, zn (w 5)), (61, 0)] []).headD 0 = if zn (yd_t Y) - (if zn (w 4) = 0 then 0 else zn (yd_t Y) / zn (w 4)) * zn (w 4) = zn (w 5) then 1 else 0 := rfl
    have hm := Nat.mod_lt (yd_t Y) hp
    rw [e, if_neg (show ¬ zn (w 4) = 0 from fun z => by have := (zn_inj (b := 0) (by omega) (by decide)).mp z; omega), zn_mod (by omega) (by omega)]
    exact i01 (by rw [zn_inj (by omega) (by omega), decide_eq_true_iff])
  rw [if_neg e1, if_neg e1]
  by_cases e2 : w 3 = 2
  · rw [if_pos e2, if_pos e2]
    have hi := t5 e2
    have hx := (hv.2.2 (w 4) (by omega)).1.2.1
    have e : (evL Y [(222, zn (w 4)), (3, zn (w 5)), (60, 0), (226, zn (w 4)), (230, 0)] []).headD 0 = (if zn (an_x (yd_a Y (zn (w 4)).toNatClampNeg)) < zn (w 5) then (1 : Int32) else 0) ||| (if meB (yd_a Y) (yd_n Y) (zn (w 4)).toNatClampNeg then 1 else 0) := rfl
    rw [e, zn_nat (by omega), i_dec]
    have e3 : decide (zn (an_x (yd_a Y (w 4))) < zn (w 5)) = decide (an_x (yd_a Y (w 4)) < w 5) := decide_eq_decide.mpr (zn_lt (by omega) (by omega))
    rw [e3]
    exact i_or
  rw [if_neg e2, if_neg e2]
  by_cases e3 : w 3 = 3
  · rw [if_pos e3, if_pos e3]
    have hi := t6 e3
    have hw2 := (hv.2.2 (w 4) (by omega)).1.2.2.2.2.1
    have hp : anP (yd_a Y (w 4)) ≤ 120 := anP_le
    have e : (evL Y [(224, zn (w 4)), (3, zn 0), (62, 0), (227, zn (w 4)), (228, 0), (229, 0)] []).headD 0 = (if zn 0 < zn (anP (yd_a Y (zn (w 4)).toNatClampNeg)) then (1 : Int32) else 0) &&& (if zn (1 - an_w (yd_a Y (zn (w 4)).toNatClampNeg)) = 0 then 1 else 0) := rfl
    rw [e, zn_nat (by omega), i_dec (c := zn 0 < zn (anP (yd_a Y (w 4)))), i_dec (c := zn (1 - an_w (yd_a Y (w 4))) = 0)]
    have e4 : decide (zn 0 < zn (anP (yd_a Y (w 4)))) = decide (0 < anP (yd_a Y (w 4))) := decide_eq_decide.mpr (zn_lt (by omega) (by omega))
    have e5 : decide (zn (1 - an_w (yd_a Y (w 4))) = 0) = decide (an_w (yd_a Y (w 4)) = 1) := decide_eq_decide.mpr ⟨fun z => by have := (zn_inj (a := 1 - an_w (yd_a Y (w 4))) (b := 0) (by omega) (by decide)).mp z; omega, fun z => by rw [z]; rfl⟩
    rw [e4, e5]
    exact i_an
  · rw [if_neg e3, if_neg e3]
    have hi := t7 (by omega)
    have hy := (hv.2.2 (w 5) (by omega)).1.2.2.1
    have hz := nz_le (c := yd_c Y) (b := 64 * w 4) 64
    have e : (evL Y [(3, zn (w 4)), (225, 0), (223, zn (w 5)), (3, zn 8), (47, 0), (43, 0), (3, zn 5), (129, 0)] []).headD 0 = if zn 5 ≤ (if zn (w 4) < 0 ∨ 64 ≤ zn (w 4) then 0 else zn (nz (yd_c Y) (64 * (zn (w 4)).toNatClampNeg) 64)) + (if zn 8 = 0 then 0 else zn (an_y (yd_a Y (zn (w 5)).toNatClampNeg)) / zn 8) then 1 else 0 := rfl
    have h64 : ¬ (zn (w 4) < 0 ∨ 64 ≤ zn (w 4)) := by
      rintro (z | z)
      · exact zn_nn (by omega) z
      · have := (zn_le (a := 64) (by decide) (by omega)).mp z
        omega
    rw [e, if_neg h64, if_neg (show ¬ zn 8 = 0 by decide), zn_nat (a := w 4) (by omega), zn_nat (a := w 5) (by omega), zn_div (by omega) (by decide), zn_add]
    exact i01 (by rw [zn_le (by decide) (by omega), decide_eq_true_iff])
end Prg
section Prg2
variable {D : va_G} {σ : aS}
theorem IS_vP (h : IS D (zR D) (zN D) (zPn D) (zOn D) σ) : vP (zN D) (sgP σ) := by
  have hR := zR_b (D := D)
  have hO := zOn_b (D := D)
  obtain ⟨h1, h2, ⟨a1, a2, a3⟩, h4, h5, h6, h7⟩ := h
  refine ⟨by omega, fun r hr => ?_, a3, by omega, ?_, fun k hk => ?_⟩
  · have hz := zZ_b (D := D) (r := r)
    rw [a1 r (by omega)]
    omega
  · have := off_9 (U := pg_T (sgP σ)) (zOn D) (fun i hi => I_o_len h5 hi)
    rw [h4]
    omega
  · obtain ⟨g1, g2, g3, v0, v1, g4⟩ := h5 k (by omega)
    rw [g1, g2, g3, g4]
    refine ⟨?_, pzV_ty zQ_O⟩
    have hw := zQ_W (D := D) (k := k)
    unfold vOrd pzK pzS
    rcases hw with ⟨e0, w1, w2⟩ | ⟨e0, w1, w2⟩ | ⟨e0 | e0, w1⟩
    · rw [e0]; exact Or.inl ⟨rfl, w1, w2⟩
    · rw [e0]; exact Or.inr (Or.inl ⟨rfl, w1, w2⟩)
    · rw [e0]; exact Or.inr (Or.inr ⟨Or.inl rfl, w1⟩)
    · rw [e0]; exact Or.inr (Or.inr ⟨Or.inr rfl, w1⟩)
theorem IS_OR (h : IS D (zR D) (zN D) (zPn D) (zOn D) σ) : OR (sgP σ) (zQ D) (zN D) := by
  obtain ⟨h1, h2, h3, h4, h5, h6, h7⟩ := h
  intro k hk
  obtain ⟨g1, g2, g3, v0, v1, g4⟩ := h5 k (by omega)
  refine ⟨zQ_W, zQ_T, fun Y en hv ht => ⟨?_, ?_⟩⟩
  · rw [g4]
    exact pzV_ev zQ_O en hv ht
  · have hw := zQ_W (D := D) (k := k)
    unfold aCarry sDo
    rw [g1, g2, g3]
    unfold pzK pzS
    rcases hw with ⟨e0, w1, w2⟩ | ⟨e0, w1, w2⟩ | ⟨e0 | e0, w1⟩
    · rw [e0]; rfl
    · rw [e0]; rfl
    · rw [e0]; rfl
    · rw [e0]; rfl
theorem IS_Y (h : IS D (zR D) (zN D) (zPn D) (zOn D) σ) : IV (sgP σ) (zN D) 0 (sgY σ) ∧ vN 0 (sgY σ) := by
  have hR := zR_b (D := D)
  have hN := zN_b (D := D)
  obtain ⟨h1, h2, h3, h4, h5, ⟨c1, c2, c3, c4, c5, c6, c7⟩, h7⟩ := h
  refine ⟨⟨⟨fun p => by rw [c1]; exact zC_lt _ _, by omega, fun i hi => ?_⟩, fun i hi => ?_, c2, ⟨by omega, by omega, by omega, by omega⟩, fun i hi h0 => ?_⟩, fun i hi => ?_⟩
  · rw [c3 i (by omega)]
    refine ⟨⟨?_, zAx_b, zAy_b, zAs_b, ?_, fun _ => (by decide : (0 : Nat) < 4)⟩, Nat.le_refl _⟩
    · have := zAr_b (D := D) (a := i)
      show zAr D i < 5
      omega
    · show 1 < 2
      decide
  · rw [c3 i (by omega), h2]
    exact zAr_b
  · rw [c3 i (by omega)] at h0
    exact absurd h0 (Nat.lt_irrefl 0)
  · rw [c3 i (by omega)]
    exact ⟨Nat.le_refl _, Nat.le_refl _⟩
theorem SM_cv {G : gS} {M : mS} {rl : Nat → Nat} {o : Nat} {S : sA} {P P' : aP} {q : Nat → Nat → Nat} {Y Y' : aY} (h : SM G M rl o S P q Y) (p1 : pg_r P' = pg_r P) (p2 : ∀ i, i < pg_r P → pg_z P' i = pg_z P i) (p3 : ∀ i, i < pg_r P → ∀ c, c < pg_z P i → pg_t P' i c = pg_t P i c) (p4 : pg_o P' = pg_o P) (y1 : yd_c Y' = yd_c Y) (y2 : yd_n Y' = yd_n Y) (y3 : ∀ i, i < yd_n Y → yd_a Y' i = yd_a Y i) (y4 : yd_t Y' = yd_t Y) (y5 : yd_m Y' = yd_m Y) (y6 : yd_w Y' = yd_w Y) (y7 : yd_k Y' = yd_k Y) : SM G M rl o S P' q Y' := by
  obtain ⟨⟨g1, ⟨n0, n1, n2, n3, n4⟩, ⟨r0, r1, r2, r3, r4⟩⟩, ho, hc, ha, hp1, hp2⟩ := h
  refine ⟨⟨g1, ⟨n0.trans p1.symm, n1, n2.trans y2.symm, n3.trans y2.symm, n4.trans p4.symm⟩, ⟨fun i hi => ?_, r1, fun i hi => r2 i (by omega), fun i hi => ?_, fun i hi => r4 i (by omega)⟩⟩, ?_, ?_, fun i hi => ?_, fun i hi c hc => ?_, fun k hk => hp2 k (by omega)⟩
  · rw [p2 i (by omega)]; exact r0 i (by omega)
  · show Rw G rl (sg S 3) i (srp S i) (4000 + i) (an_n (yd_a Y' i))
    rw [y3 i (by omega)]; exact r3 i (by omega)
  · unfold SMo at ho ⊢
    rw [y4, y5, y6, y7]; exact ho
  · rw [y1]; exact hc
  · rw [y3 i (by omega)]; exact ha i (by omega)
  · rw [p2 i (by omega)] at hc
    rw [p3 i (by omega) c hc]
    exact hp1 i (by omega) c hc
theorem IS_SM (h : IS D (zR D) (zN D) (zPn D) (zOn D) σ) {G : gS} {M : mS} {rl : Nat → Nat} {o : Nat} {S : sA} (hM : SM G M rl o S (pzD D (zR D) (zOn D)) (zQ D) (yzD D (zN D) (zPn D))) : SM G M rl o S (sgP σ) (zQ D) (sgY σ) := by
  obtain ⟨h1, h2, ⟨a1, a2, a3⟩, h4, h5, ⟨c1, c2, c3, c4, c5, c6, c7⟩, h7⟩ := h
  exact SM_cv hM h2 a1 a2 h4 c1 c2 c3 c4 c5 c6 c7
/-- at most three orders wash -/
def cW (D : va_G) (k : Nat) : Nat := if zO0 D k = 0 then 1 else 0
theorem cW_b : cW D 1 + cW D 2 ≤ 1 ∧ cW D 4 + cW D 5 ≤ 1 ∧ cW D 3 ≤ 1 := by
  have h1 := zO0_m (D := D) (k := 1) (by decide)
  have h2 := zO0_m (D := D) (k := 2) (by decide)
  have h4 := zO0_m (D := D) (k := 4) (by decide)
  have h5 := zO0_m (D := D) (k := 5) (by decide)
  rw [show ((2 ^ 1 : Nat) : Int) = 2 from rfl] at h1
  rw [show ((2 ^ 2 : Nat) : Int) = 4 from rfl] at h2
  rw [show ((2 ^ 4 : Nat) : Int) = 16 from rfl] at h4
  rw [show ((2 ^ 5 : Nat) : Int) = 32 from rfl] at h5
  unfold cW
  refine ⟨?_, ?_, ?_⟩
  · split <;> split <;> omega
  · split <;> split <;> omega
  · split <;> omega
def cWs (D : va_G) (n : Nat) : Nat → Nat
  | 0 => 0
  | m + 1 => cWs D n m + cW D (n - m)
theorem cWs_b : ∀ n : Nat, n ≤ 5 → cWs D n n ≤ 3 := by
  obtain ⟨h1, h2, h3⟩ := cW_b (D := D)
  intro n hn
  rcases (show n = 0 ∨ n = 1 ∨ n = 2 ∨ n = 3 ∨ n = 4 ∨ n = 5 by omega) with rfl | rfl | rfl | rfl | rfl | rfl
  · exact Nat.zero_le _
  · show 0 + cW D 1 ≤ 3; omega
  · show 0 + cW D 2 + cW D 1 ≤ 3; omega
  · show 0 + cW D 3 + cW D 2 + cW D 1 ≤ 3; omega
  · show 0 + cW D 4 + cW D 3 + cW D 2 + cW D 1 ≤ 3; omega
  · show 0 + cW D 5 + cW D 4 + cW D 3 + cW D 2 + cW D 1 ≤ 3; omega
theorem oS_b : ∀ m : Nat, (oS (zQ D) m).1 ≤ 30 * cWs D (zOn D) m + m ∧ (oS (zQ D) m).2 ≤ 1920 * cWs D (zOn D) m := by
  intro m
  induction m with
  | zero => exact ⟨Nat.le_refl _, Nat.le_refl _⟩
  | succ m ih =>
    have h2 := (zO2_b (D := D) (k := zOn D - m)).1
    have e : oC (zQ D m) = if zO0 D (zOn D - m) = 0 then (zO2 D (zOn D - m) + 1 - zO1 D (zOn D - m), 64 * (zO2 D (zOn D - m) + 1 - zO1 D (zOn D - m))) else (1, 0) := rfl
    have ec : cWs D (zOn D) (m + 1) = cWs D (zOn D) m + if zO0 D (zOn D - m) = 0 then 1 else 0 := rfl
    show (oS (zQ D) m).1 + (oC (zQ D m)).1 ≤ _ ∧ (oS (zQ D) m).2 + (oC (zQ D m)).2 ≤ _
    rw [e, ec]
    obtain ⟨i1, i2⟩ := ih
    by_cases q : zO0 D (zOn D - m) = 0
    · have := (h2 q).2.2
      rw [if_pos q, if_pos q]
      dsimp only
      omega
    · rw [if_neg q, if_neg q]
      dsimp only
      omega
theorem oS_zQ : uL (oS (zQ D) (zOn D)) (95, 5760) := by
  have h1 := oS_b (D := D) (zOn D)
  have h2 := cWs_b (D := D) (zOn D) (by have := zOn_b (D := D); omega)
  have h3 := zOn_b (D := D)
  exact ⟨by show _ ≤ 95; omega, by show _ ≤ 5760; omega⟩
end Prg2
