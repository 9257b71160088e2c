/-! the list that is told, read: orders; all lines -/
section Ln2
variable {D : va_G} {T : Nat → Nat} {tl p q r a j k kk ff ss : Nat} {σ : aS} {acc : List aO}
theorem IO_new (h : IS D r a j k σ) (hk : k ≤ 5) : IO D r a j k (kdT T tl p) 0 0 [] (sOrdr T tl p σ) := by
  obtain ⟨h1, h2, h3, h4, h5, h6, h7⟩ := h
  have e : sOrdr T tl p σ = sSetP (pOrd (kdT T tl p) (sgP σ)) σ := by
    unfold sOrdr
    rw [if_pos (by omega)]
  rw [e]
  refine ⟨h1, h2, h3, by show pg_o (sgP σ) + 1 = _; omega, fun i hi => ?_, ⟨if_pos h4.symm, if_pos h4.symm, if_pos h4.symm, if_pos h4.symm⟩, h6, h7⟩
  obtain ⟨a1, a2, a3, v0, v1, a4⟩ := h5 i hi
  have ne : ¬ i = pg_o (sgP σ) := by omega
  exact ⟨(if_neg ne).trans a1, (if_neg ne).trans a2, (if_neg ne).trans a3, v0, v1, (if_neg ne).trans a4⟩
theorem IO_s {f s : Nat} (h : IO D r a j k kk ff ss acc σ) : IO D r a j k kk f s acc (sNums f s σ) := by
  obtain ⟨h1, h2, h3, h4, h5, ⟨g1, g2, g3, g4⟩, h6, h7⟩ := h
  have e : sNums f s σ = sSetP (pg_r (sgP σ), pg_z (sgP σ), pg_t (sgP σ), pg_o (sgP σ), pg_k (sgP σ), (fun j => if j = pg_o (sgP σ) - 1 then f else pg_f (sgP σ) j), (fun j => if j = pg_o (sgP σ) - 1 then s else pg_s (sgP σ) j), pg_T (sgP σ)) σ := by
    unfold sNums pNums
    rw [if_neg (by omega)]
  rw [e]
  refine ⟨h1, h2, h3, h4, fun i hi => ?_, ⟨g1, if_pos (by omega), if_pos (by omega), g4⟩, h6, h7⟩
  obtain ⟨a1, a2, a3, v0, v1, a4⟩ := h5 i hi
  have ne : ¬ i = pg_o (sgP σ) - 1 := by omega
  exact ⟨a1, (if_neg ne).trans a2, (if_neg ne).trans a3, v0, v1, a4⟩
theorem IS_of {v0 v1 : Int32} (h : IO D r a j k (pzK (zQ D k)) (zQ D k 1) (pzS (zQ D k)) (pzV (zQ D k) v0 v1) σ) : IS D r a j (k + 1) σ := by
  obtain ⟨h1, h2, h3, h4, h5, ⟨g1, g2, g3, g4⟩, h6, h7⟩ := h
  refine ⟨h1, h2, h3, h4, fun i hi => ?_, h6, h7⟩
  by_cases e : i = k
  · rw [e]; exact ⟨g1, g2, g3, v0, v1, g4⟩
  · exact h5 i (by omega)
theorem pThen_t : pThen T tl (true, q) = ((pTest T tl q).1, (pTest T tl q).2.1) := if_pos rfl
theorem sAntN_at (h : IO D r a j k kk ff ss acc σ) {t i : Nat} (hi : i < a) (hkey : keyT T tl t = 64 + i) : ixD (antO T tl t σ) = i ∧ sAntN T tl t σ = σ := by
  have e := ant_at (T := T) (tl := tl) h.2.2.2.2.2.2.2 h.2.2.2.2.2.2.1.2.1 hi hkey
  unfold sAntN
  rw [e]
  exact ⟨rfl, rfl⟩
/-- behind an order's head -/
theorem L_end {K : List (Nat × Nat)} {n : Nat} (hn : K.length = n) (hL : HL T tl p (K ++ ([(219, kv 19)] ++ (kS (zQ D k) ++ [(59, 0)])))) : HL T tl p K ∧ kdT T tl (p + n) = 219 ∧ HL T tl (p + n + 1) (kS (zQ D k) ++ [(59, 0)]) ∧ kdT T tl (p + n + 1 + (kS (zQ D k)).length) = 59 := by
  have hR : HL T tl (p + K.length) ([(219, kv 19)] ++ (kS (zQ D k) ++ [(59, 0)])) := HL_r hL
  rw [hn] at hR
  have hS : HL T tl (p + n + 1) (kS (zQ D k) ++ [(59, 0)]) := HL_r hR
  exact ⟨HL_l hL, (HL_l hR 0 (show 0 < 1 by decide)).1, hS, (HL_r hS 0 (show 0 < 1 by decide)).1⟩
theorem kO1_len {n : Nat} (hn : (kH (zQ D k)).length = n) : (kO1 (zQ D k)).length = n + 1 + (kS (zQ D k)).length + 1 := by
  unfold kO1
  rw [List.length_append, List.length_append, List.length_append, hn]
  show _ + (1 + (_ + 1)) = _
  omega
theorem L_fin {n : Nat} (hn : (kH (zQ D k)).length = n) (h1 : pLn T tl p = (true, p + n + 1 + (kS (zQ D k)).length)) (h59 : kdT T tl (p + n + 1 + (kS (zQ D k)).length) = 59) : pLnE T tl p = (true, p + (kO1 (zQ D k)).length) := by
  rw [pLnE_of h1 h59, kO1_len hn, show p + n + 1 + (kS (zQ D k)).length + 1 = p + (n + 1 + (kS (zQ D k)).length + 1) by omega]
theorem L_wash (hk : k ≤ 4) (h : IS D r a j k σ) (hw : vO a (zQ D k)) (hL : HL T tl p (kO1 (zQ D k))) (e0 : zQ D k 0 = 0) (w12 : zQ D k 1 ≤ zQ D k 2) (w63 : zQ D k 2 ≤ 63) : pLnE T tl p = (true, p + (kO1 (zQ D k)).length) ∧ IS D r a j (k + 1) (sLn T tl p σ) ∧ kdT T tl p ≠ 0 := by
  have hk5 : k ≤ 5 := Nat.le_succ_of_le hk
  have w13 : zQ D k 1 ≤ 63 := Nat.le_trans w12 w63
  have eK : kH (zQ D k) = [(214, kv 14), (3, zQ D k 1), (215, kv 15), (3, zQ D k 2)] := by unfold kH; rw [if_pos e0]
  have eP : pzK (zQ D k) = 214 := by unfold pzK; rw [if_pos e0]
  have eS : pzS (zQ D k) = zQ D k 2 := by unfold pzS; rw [if_pos (by rw [e0]; decide)]
  have hn : (kH (zQ D k)).length = 4 := by rw [eK]; rfl
  obtain ⟨hH, kw, hS, h59⟩ := L_end (D := D) (k := k) hn hL
  rw [eK] at hH
  have d0 : kdT T tl p = 214 := (hH 0 (show 0 < 4 by decide)).1
  have d1 : kdT T tl (p + 1) = 3 := (hH 1 (show 1 < 4 by decide)).1
  have d2 : kdT T tl (p + 2) = 215 := (hH 2 (show 2 < 4 by decide)).1
  have d3 : kdT T tl (p + 3) = 3 := (hH 3 (show 3 < 4 by decide)).1
  have n1 : numT T tl (p + 1) = zQ D k 1 := (hH 1 (show 1 < 4 by decide)).2.2.2 rfl
  have n3 : numT T tl (p + 3) = zQ D k 2 := (hH 3 (show 3 < 4 by decide)).2.2.2 rfl
  have h0 := IO_new (T := T) (tl := tl) (p := p) h hk5
  rw [d0] at h0
  have ep : pPre (kdT T tl) washQ (p + 1) = (true, p + 4 + 1) := (pPre_c (p := p + 1) (eQ_k d1)).trans ((pPre_c (p := p + 2) (eQ_k d2)).trans ((pPre_c (p := p + 3) (eQ_k d3)).trans (pPre_c (p := p + 4) (l := []) (eQ_k kw))))
  have h1 := IO_s (f := zQ D k 1) (s := zQ D k 2) h0
  obtain ⟨t1, t2, v0, v1, t3⟩ := IO_t (T := T) (tl := tl) (q := p + 4 + 1) hw h1 hk5 hS
  have e1 : pLn T tl p = (true, p + 4 + 1 + (kS (zQ D k)).length) := by
    unfold pLn
    rw [d0, if_neg (by decide), if_neg (by decide), if_neg (by decide), if_pos rfl, ep, pThen_t, t1, t2]
  have ef : sLn T tl p σ = sOps T tl (pTest T tl (p + 4 + 1)).2.2 (sNums (zQ D k 1) (zQ D k 2) (sOrdr T tl p σ)) := by
    unfold sLn
    rw [d0, if_neg (by decide), if_neg (by decide), if_neg (by decide), if_pos rfl]
    unfold sWash
    rw [n1, n3, nRn_in (lo := 0) (hi := 63) (n := zQ D k 1) ⟨Nat.zero_le _, w13⟩, nRn_in (lo := zQ D k 1) (hi := 63) (n := zQ D k 2) ⟨w12, w63⟩, sRn_in (lo := zQ D k 1) (hi := 63) (n := zQ D k 2) ⟨w12, w63⟩, sRn_in (lo := 0) (hi := 63) (n := zQ D k 1) ⟨Nat.zero_le _, w13⟩]
  refine ⟨L_fin hn e1 h59, ?_, by rw [d0]; decide⟩
  rw [ef]
  refine IS_of (v0 := v0) (v1 := v1) ?_
  rw [eP, eS]
  exact t3
theorem L_face (hk : k ≤ 4) (h : IS D r a j k σ) (hw : vO a (zQ D k)) (hL : HL T tl p (kO1 (zQ D k))) (e0 : zQ D k 0 = 1) (w1 : zQ D k 1 < a) (w2 : zQ D k 2 < 4) : pLnE T tl p = (true, p + (kO1 (zQ D k)).length) ∧ IS D r a j (k + 1) (sLn T tl p σ) ∧ kdT T tl p ≠ 0 := by
  have hk5 : k ≤ 5 := Nat.le_succ_of_le hk
  have ne : ¬ zQ D k 0 = 0 := by rw [e0]; decide
  have eK : kH (zQ D k) = [(216, kv 16), (2, 64 + zQ D k 1), (209 + zQ D k 2, kv (9 + zQ D k 2))] := by unfold kH; rw [if_neg ne, if_pos e0]
  have eP : pzK (zQ D k) = 216 := by unfold pzK; rw [if_neg ne, if_pos e0]
  have eS : pzS (zQ D k) = zQ D k 2 := by unfold pzS; rw [if_pos (by rw [e0]; decide)]
  have hn : (kH (zQ D k)).length = 3 := by rw [eK]; rfl
  obtain ⟨hH, kw, hS, h59⟩ := L_end (D := D) (k := k) hn hL
  rw [eK] at hH
  have d0 : kdT T tl p = 216 := (hH 0 (show 0 < 3 by decide)).1
  have d1 : kdT T tl (p + 1) = 2 := (hH 1 (show 1 < 3 by decide)).1
  have d2 : kdT T tl (p + 2) = 209 + zQ D k 2 := (hH 2 (show 2 < 3 by decide)).1
  have y1 : keyT T tl (p + 1) = 64 + zQ D k 1 := (hH 1 (show 1 < 3 by decide)).2.2.1 rfl
  have h0 := IO_new (T := T) (tl := tl) (p := p) h hk5
  rw [d0] at h0
  obtain ⟨u1, u2⟩ := sAntN_at (T := T) (tl := tl) (t := p + 1) (i := zQ D k 1) h0 w1 y1
  have q2 : qSide (209 + zQ D k 2) = true := by rw [qSide_t]; omega
  have ep : pPre (kdT T tl) faceQ (p + 1) = (true, p + 3 + 1) := (pPre_c (p := p + 1) (eQ_k d1)).trans ((pPre_c (p := p + 2) (by rw [d2]; exact q2)).trans (pPre_c (p := p + 3) (l := []) (eQ_k kw)))
  have h1 := IO_s (f := zQ D k 1) (s := zQ D k 2) h0
  obtain ⟨t1, t2, v0, v1, t3⟩ := IO_t (T := T) (tl := tl) (q := p + 3 + 1) hw h1 hk5 hS
  have e1 : pLn T tl p = (true, p + 3 + 1 + (kS (zQ D k)).length) := by
    unfold pLn
    rw [d0, if_neg (by decide), if_neg (by decide), if_neg (by decide), if_neg (by decide), if_pos rfl, ep, pThen_t, t1, t2]
  have ef : sLn T tl p σ = sOps T tl (pTest T tl (p + 3 + 1)).2.2 (sNums (zQ D k 1) (zQ D k 2) (sOrdr T tl p σ)) := by
    unfold sLn
    rw [d0, if_neg (by decide), if_neg (by decide), if_neg (by decide), if_neg (by decide), if_pos rfl]
    unfold sFace
    rw [u1, u2, d2, Nat.add_sub_cancel_left]
  refine ⟨L_fin hn e1 h59, ?_, by rw [d0]; decide⟩
  rw [ef]
  refine IS_of (v0 := v0) (v1 := v1) ?_
  rw [eP, eS]
  exact t3
theorem L_halt (hk : k ≤ 4) (h : IS D r a j k σ) (hw : vO a (zQ D k)) (hL : HL T tl p (kO1 (zQ D k))) {z y : Nat} (hz : z = 217 ∨ z = 218) (eK : kH (zQ D k) = [(z, y), (2, 64 + zQ D k 1)]) (eP : pzK (zQ D k) = z) (eS : pzS (zQ D k) = 0) (w1 : zQ D k 1 < a) : pLnE T tl p = (true, p + (kO1 (zQ D k)).length) ∧ IS D r a j (k + 1) (sLn T tl p σ) ∧ kdT T tl p ≠ 0 := by
  have hk5 : k ≤ 5 := Nat.le_succ_of_le hk
  have hn : (kH (zQ D k)).length = 2 := by rw [eK]; rfl
  obtain ⟨hH, kw, hS, h59⟩ := L_end (D := D) (k := k) hn hL
  rw [eK] at hH
  have d0 : kdT T tl p = z := (hH 0 (show 0 < 2 by decide)).1
  have d1 : kdT T tl (p + 1) = 2 := (hH 1 (show 1 < 2 by decide)).1
  have y1 : keyT T tl (p + 1) = 64 + zQ D k 1 := (hH 1 (show 1 < 2 by decide)).2.2.1 rfl
  have h0 := IO_new (T := T) (tl := tl) (p := p) h hk5
  rw [d0] at h0
  obtain ⟨u1, u2⟩ := sAntN_at (T := T) (tl := tl) (t := p + 1) (i := zQ D k 1) h0 w1 y1
  have ep : pPre (kdT T tl) haltQ (p + 1) = (true, p + 2 + 1) := (pPre_c (p := p + 1) (eQ_k d1)).trans (pPre_c (p := p + 2) (l := []) (eQ_k kw))
  have h1 := IO_s (f := zQ D k 1) (s := 0) h0
  obtain ⟨t1, t2, v0, v1, t3⟩ := IO_t (T := T) (tl := tl) (q := p + 2 + 1) hw h1 hk5 hS
  have z1 : ¬ z = 200 ∧ ¬ z = 205 ∧ ¬ z = 213 ∧ ¬ z = 214 ∧ ¬ z = 216 ∧ z ≠ 0 := by rcases hz with e | e <;> rw [e] <;> decide
  have e1 : pLn T tl p = (true, p + 2 + 1 + (kS (zQ D k)).length) := by
    unfold pLn
    rw [d0, if_neg z1.1, if_neg z1.2.1, if_neg z1.2.2.1, if_neg z1.2.2.2.1, if_neg z1.2.2.2.2.1, if_pos hz, ep, pThen_t, t1, t2]
  have ef : sLn T tl p σ = sOps T tl (pTest T tl (p + 2 + 1)).2.2 (sNums (zQ D k 1) 0 (sOrdr T tl p σ)) := by
    unfold sLn
    rw [d0, if_neg z1.1, if_neg z1.2.1, if_neg z1.2.2.1, if_neg z1.2.2.2.1, if_neg z1.2.2.2.2.1]
    unfold sHalt
    rw [u1, u2]
  refine ⟨L_fin hn e1 h59, ?_, by rw [d0]; exact z1.2.2.2.2.2⟩
  rw [ef]
  refine IS_of (v0 := v0) (v1 := v1) ?_
  rw [eP, eS]
  exact t3
/-- an order's line -/
theorem L_ord (hk : k ≤ 4) (h : IS D r a j k σ) (hw : vO a (zQ D k)) (hL : HL T tl p (kO1 (zQ D k))) : pLnE T tl p = (true, p + (kO1 (zQ D k)).length) ∧ IS D r a j (k + 1) (sLn T tl p σ) ∧ kdT T tl p ≠ 0 := by
  rcases hw.2.1 with ⟨e0, w1, w2⟩ | ⟨e0, w1, w2⟩ | ⟨e0 | e0, w1⟩
  · exact L_wash hk h hw hL e0 w1 (by omega)
  · exact L_face hk h hw hL e0 w1 w2
  · have n0 : ¬ zQ D k 0 = 0 := by rw [e0]; decide
    have n1 : ¬ zQ D k 0 = 1 := by rw [e0]; decide
    exact L_halt hk h hw hL (z := 217) (y := kv 17) (Or.inl rfl) (by unfold kH; rw [if_neg n0, if_neg n1, if_pos e0]) (by unfold pzK; rw [if_neg n0, if_neg n1, if_pos e0]) (by unfold pzS; rw [if_neg (by rw [e0]; decide)]) w1
  · have n0 : ¬ zQ D k 0 = 0 := by rw [e0]; decide
    have n1 : ¬ zQ D k 0 = 1 := by rw [e0]; decide
    have n2 : ¬ zQ D k 0 = 2 := by rw [e0]; decide
    exact L_halt hk h hw hL (z := 218) (y := kv 18) (Or.inr rfl) (by unfold kH; rw [if_neg n0, if_neg n1, if_neg n2]) (by unfold pzK; rw [if_neg n0, if_neg n1, if_neg n2]) (by unfold pzS; rw [if_neg (by rw [e0]; decide)]) w1
/-- m lines are read, p is the next token -/
def AL (T : Nat → Nat) (tl m p : Nat) (σ : aS) : Prop := pAll T tl 400 0 = pAll T tl (400 - m) p ∧ sAll T tl 400 0 aS0 = sAll T tl (400 - m) p σ
theorem AL_s {m p' : Nat} (h : AL T tl m p σ) (hm : m < 400) (h0 : kdT T tl p ≠ 0) (h1 : pLnE T tl p = (true, p')) : AL T tl (m + 1) p' (sLn T tl p σ) := by
  obtain ⟨a1, a2⟩ := h
  obtain ⟨f, hf⟩ : ∃ f, 400 - m = f + 1 := ⟨400 - m - 1, by omega⟩
  have hf2 : 400 - (m + 1) = f := by omega
  unfold AL
  rw [a1, a2, hf, hf2, pAll, if_neg h0, sAll, if_neg h0, h1]
  exact ⟨if_pos rfl, rfl⟩
theorem HK_l {A B : List (Nat × Nat)} (h : HK T tl (A ++ B)) : HK T tl A := fun i hi => by
  have := h i (by rw [List.length_append]; omega)
  rw [gp_l hi] at this
  exact this
theorem R_all : ∀ r : Nat, r ≤ zR D → HK T tl (kR D r) → ∃ σ, AL T tl r (kR D r).length σ ∧ IS D r 0 0 0 σ := by
  have hR := zR_b (D := D)
  intro r
  induction r with
  | zero => exact fun _ _ => ⟨aS0, ⟨rfl, rfl⟩, rfl, rfl, ⟨fun i hi => absurd hi (Nat.not_lt_zero i), fun i hi => absurd hi (Nat.not_lt_zero i), fun _ _ => (by decide : (0 : Nat) < 4)⟩, rfl, fun i hi => absurd hi (Nat.not_lt_zero i), ⟨rfl, rfl, fun i hi => absurd hi (Nat.not_lt_zero i), rfl, rfl, rfl, rfl⟩, ⟨fun i hi => absurd hi (Nat.not_lt_zero i), fun i hi => absurd hi (Nat.not_lt_zero i)⟩⟩
  | succ r ih =>
    intro hr hK
    obtain ⟨σ, h1, h2⟩ := ih (by omega) (HK_l hK)
    obtain ⟨g1, g2, g3⟩ := L_rule (by omega) h2 (HL_of hK)
    have := AL_s h1 (by omega) g3 g1
    rw [← List.length_append] at this
    exact ⟨_, this, g2⟩
theorem A_all : ∀ a : Nat, a ≤ zN D → HK T tl (kA D a) → ∃ σ, AL T tl (zR D + a) (kA D a).length σ ∧ IS D (zR D) a 0 0 σ := by
  have hR := zR_b (D := D)
  have hN := zN_b (D := D)
  intro a
  induction a with
  | zero => exact fun _ hK => R_all _ (Nat.le_refl _) hK
  | succ a ih =>
    intro hr hK
    obtain ⟨σ, h1, h2⟩ := ih (by omega) (HK_l hK)
    obtain ⟨g1, g2, g3⟩ := L_ant (by omega) h2 (HL_of hK)
    have := AL_s h1 (by omega) g3 g1
    rw [← List.length_append] at this
    exact ⟨_, this, g2⟩
theorem P_all : ∀ j : Nat, j ≤ 8 → HK T tl (kP D j) → ∃ σ, AL T tl (zR D + zN D + j) (kP D j).length σ ∧ IS D (zR D) (zN D) j 0 σ := by
  have hR := zR_b (D := D)
  have hN := zN_b (D := D)
  intro j
  induction j with
  | zero => exact fun _ hK => A_all _ (Nat.le_refl _) hK
  | succ j ih =>
    intro hr hK
    obtain ⟨σ, h1, h2⟩ := ih (by omega) (HK_l hK)
    obtain ⟨g1, g2, g3⟩ := L_paint h2 (HL_of hK)
    have := AL_s h1 (by omega) g3 g1
    rw [← List.length_append] at this
    exact ⟨_, this, g2⟩
theorem O_all : ∀ k : Nat, k ≤ 5 → HK T tl (kOr D k) → ∃ σ, AL T tl (zR D + zN D + zPn D + k) (kOr D k).length σ ∧ IS D (zR D) (zN D) (zPn D) k σ := by
  have hR := zR_b (D := D)
  have hN := zN_b (D := D)
  have hP := zPn_b (D := D)
  intro k
  induction k with
  | zero => exact fun _ hK => P_all _ (by omega) hK
  | succ k ih =>
    intro hr hK
    obtain ⟨σ, h1, h2⟩ := ih (by omega) (HK_l hK)
    obtain ⟨g1, g2, g3⟩ := L_ord (by omega) h2 zQ_O (HL_of hK)
    have := AL_s h1 (by omega) g3 g1
    rw [← List.length_append] at this
    exact ⟨_, this, g2⟩
/-- how many tokens, how many bytes -/
theorem kS_len {w : Nat → Nat} : (kS w).length ≤ 11 := by
  unfold kS
  repeat' split
  all_goals (simp only [List.length_cons, List.length_nil]; omega)
theorem kH_len {w : Nat → Nat} : (kH w).length ≤ 4 := by
  unfold kH
  repeat' split
  all_goals (simp only [List.length_cons, List.length_nil]; omega)
theorem kR_len : ∀ r : Nat, (kR D r).length ≤ 9 * r := by
  intro r
  induction r with
  | zero => exact Nat.le_refl _
  | succ r ih =>
    have hz := zZ_b (D := D) (r := r)
    show (kR D r ++ ([(200, kv 0), (2, 693 + r)] ++ (kT D r (zZ D r) ++ [(59, 0)]))).length ≤ _
    rw [List.length_append, List.length_append, List.length_append, kT_len]
    show _ + (2 + (_ + 1)) ≤ _
    omega
theorem kA_len : ∀ a : Nat, (kA D a).length ≤ 27 + 10 * a := by
  intro a
  induction a with
  | zero => have := kR_len (D := D) (zR D); have := zR_b (D := D); show (kR D (zR D)).length ≤ _; omega
  | succ a ih =>
    show (kA D a ++ kA1 D a).length ≤ _
    rw [List.length_append]
    show _ + 10 ≤ _
    omega
theorem kP_len : ∀ j : Nat, (kP D j).length ≤ 77 + 5 * j := by
  intro j
  induction j with
  | zero => have := kA_len (D := D) (zN D); have := zN_b (D := D); show (kA D (zN D)).length ≤ _; omega
  | succ j ih =>
    show (kP D j ++ kP1 D (zPn D - j)).length ≤ _
    rw [List.length_append]
    show _ + 5 ≤ _
    omega
theorem kO_len : ∀ k : Nat, (kOr D k).length ≤ 117 + 17 * k := by
  intro k
  induction k with
  | zero => have := kP_len (D := D) (zPn D); have := zPn_b (D := D); show (kP D (zPn D)).length ≤ _; omega
  | succ k ih =>
    have h1 := kS_len (w := zQ D k)
    have h2 := kH_len (w := zQ D k)
    show (kOr D k ++ (kH (zQ D k) ++ ([(219, kv 19)] ++ (kS (zQ D k) ++ [(59, 0)])))).length ≤ _
    rw [List.length_append, List.length_append, List.length_append, List.length_append]
    show _ + (_ + (1 + (_ + 1))) ≤ _
    omega
/-- what teach makes of the text -/
theorem rd_ok (htl : tl ≤ 2000) (hT : ∀ k, k < tl → T k = gB (txO D (zOn D)) k) (hl : tl = (txO D (zOn D)).length) : (rdP T tl).1 = true ∧ IS D (zR D) (zN D) (zPn D) (zOn D) (rdS T tl) := by
  have hO := zOn_b (D := D)
  have hR := zR_b (D := D)
  have hN := zN_b (D := D)
  have hP := zPn_b (D := D)
  have hlen := kO_len (D := D) (zOn D)
  have hs := Sq_O (D := D) (zOn D) T tl htl ⟨fun k hk => hT k (by omega), by omega⟩ (Or.inl rfl)
  have hK := (seg_HK hs (by omega)).1
  have h0 : kdT T tl (kOr D (zOn D)).length = 0 := by
    rw [← hl] at hs
    exact seg_end hs (by omega)
  obtain ⟨σ, ⟨a1, a2⟩, h2⟩ := O_all (T := T) (tl := tl) (zOn D) (by omega) hK
  obtain ⟨f, hf⟩ : ∃ f, 400 - (zR D + zN D + zPn D + zOn D) = f + 1 := ⟨400 - (zR D + zN D + zPn D + zOn D) - 1, by omega⟩
  have a1' : pAll T tl 400 0 = (true, (kOr D (zOn D)).length) := by rw [a1, hf, pAll, if_pos h0]
  have a2' : sAll T tl 400 0 aS0 = σ := by rw [a2, hf, sAll, if_pos h0]
  unfold rdP rdS
  rw [a1', a2']
  exact ⟨rfl, h2⟩
end Ln2
