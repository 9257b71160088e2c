/-! the list that is told, read: rules, ants, stones -/
section Ln1
variable {D : va_G} {T : Nat → Nat} {tl p q r a j k : Nat} {σ : aS}
theorem nTu_eq {kd : Nat → Nat} : ∀ z f q : Nat, z ≤ f → (∀ i, i < z → qTurn (kd (q + i)) = true) → qTurn (kd (q + z)) = false → nTu kd f q = z := by
  intro z
  induction z with
  | zero =>
    intro f q _ _ h
    match f with
    | 0 => rfl
    | f + 1 =>
      rw [nTu, if_neg]
      rw [show q + 0 = q from rfl] at h
      rw [h]
      decide
  | succ z ih =>
    intro f q hf h h2
    obtain ⟨g, rfl⟩ : ∃ g, f = g + 1 := ⟨f - 1, by omega⟩
    have h0 := h 0 (by omega)
    rw [Nat.add_zero] at h0
    rw [nTu, if_pos h0, ih g (q + 1) (by omega) (fun i hi => by rw [show q + 1 + i = q + (i + 1) by omega]; exact h (i + 1) (by omega)) (by rw [show q + 1 + z = q + (z + 1) by omega]; exact h2)]
theorem kT_len : ∀ m : Nat, (kT D r m).length = m := by
  intro m
  induction m with
  | zero => rfl
  | succ m ih => rw [kT, List.length_append, ih]; rfl
theorem kT_at : ∀ m i : Nat, i < m → (kT D r m).getD i (0, 0) = (201 + zT D r i, kv (1 + zT D r i)) := by
  intro m
  induction m with
  | zero => intro i hi; exact absurd hi (Nat.not_lt_zero i)
  | succ m ih =>
    intro i hi
    rw [kT]
    by_cases e : i < m
    · rw [gp_l (by rw [kT_len]; exact e)]
      exact ih i e
    · have e2 : i = (kT D r m).length + 0 := by rw [kT_len]; omega
      have e3 : i = m := by omega
      rw [e2, getD_app, ← e2, e3]
      rfl
theorem pLnE_of {p1 : Nat} (h : pLn T tl p = (true, p1)) (h59 : kdT T tl p1 = 59) : pLnE T tl p = (true, p1 + 1) := by
  unfold pLnE
  rw [h]
  exact (if_pos rfl).trans (if_pos h59)
theorem IT_s : ∀ m q c : Nat, ∀ σ : aS, IT D r c σ → c + m ≤ 6 → (∀ i, i < m → kdT T tl (q + i) = 201 + zT D r (c + i)) → IT D r (c + m) (sTurns T tl m q σ) := by
  intro m
  induction m with
  | zero => intro q c σ h _ _; exact h
  | succ m ih =>
    intro q c σ h hc hk
    obtain ⟨h1, h2, ⟨a1, a2, a3⟩, ⟨b1, b2⟩, h5, h6, h7⟩ := h
    have hz : pg_z (sgP σ) (pg_r (sgP σ) - 1) = c := by rw [h2]; exact b1
    have k0 := hk 0 (by omega)
    rw [Nat.add_zero, Nat.add_zero] at k0
    have e : sTurn T tl q σ = sSetP (pTurn (zT D r c) (sgP σ)) σ := by
      unfold sTurn
      rw [if_pos (by omega), k0, show 201 + zT D r c - 201 = zT D r c by omega]
    have h' : IT D r (c + 1) (sTurn T tl q σ) := by
      rw [e]
      refine ⟨h1, h2, ⟨fun i hi => ?_, fun i hi d hd => ?_, fun i d => ?_⟩, ⟨?_, fun d hd => ?_⟩, h5, h6, h7⟩
      · show (if i = pg_r (sgP σ) - 1 then pg_z (sgP σ) i + 1 else pg_z (sgP σ) i) = _
        rw [if_neg (by omega)]
        exact a1 i hi
      · show (if i = pg_r (sgP σ) - 1 ∧ d = pg_z (sgP σ) (pg_r (sgP σ) - 1) then zT D r c else pg_t (sgP σ) i d) = _
        rw [if_neg (by omega)]
        exact a2 i hi d hd
      · show (if i = pg_r (sgP σ) - 1 ∧ d = pg_z (sgP σ) (pg_r (sgP σ) - 1) then zT D r c else pg_t (sgP σ) i d) < 4
        split
        · exact zT_b
        · exact a3 i d
      · show (if r = pg_r (sgP σ) - 1 then pg_z (sgP σ) r + 1 else pg_z (sgP σ) r) = _
        rw [if_pos (by omega), b1]
      · show (if r = pg_r (sgP σ) - 1 ∧ d = pg_z (sgP σ) (pg_r (sgP σ) - 1) then zT D r c else pg_t (sgP σ) r d) = _
        rw [hz]
        by_cases q2 : d = c
        · rw [if_pos ⟨by omega, q2⟩, q2]
        · rw [if_neg (fun z => q2 z.2)]
          exact b2 d (by omega)
    have := ih (q + 1) (c + 1) _ h' (by omega) (fun i hi => by rw [show q + 1 + i = q + (i + 1) by omega, show c + 1 + i = c + (i + 1) by omega]; exact hk (i + 1) (by omega))
    rw [show c + (m + 1) = c + 1 + m by omega]
    exact this
/-- a rule's line -/
theorem L_rule (hr : r < zR D) (h : IS D r 0 0 0 σ) (hL : HL T tl p (kR1 D r)) : pLnE T tl p = (true, p + (kR1 D r).length) ∧ IS D (r + 1) 0 0 0 (sLn T tl p σ) ∧ kdT T tl p ≠ 0 := by
  have hR3 := zR_b (D := D)
  have hz := zZ_b (D := D) (r := r)
  have hA : HL T tl p [(200, kv 0), (2, 693 + r)] := HL_l hL
  have hB : HL T tl (p + 2) (kT D r (zZ D r) ++ [(59, 0)]) := HL_r hL
  have hC := HL_l hB
  have hD := HL_r hB
  rw [kT_len] at hD
  have k0 := hA 0 (by simp)
  have k1 := hA 1 (by simp)
  have k9 := hD 0 (by simp)
  rw [Nat.add_zero] at k0 k9
  have kt : ∀ i, i < zZ D r → kdT T tl (p + 2 + i) = 201 + zT D r i := fun i hi => by
    have := (hC i (by rw [kT_len]; exact hi)).1
    rw [kT_at _ i hi] at this
    exact this
  have e0 : kdT T tl p = 200 := k0.1
  have nT : nTu (kdT T tl) 400 (p + 2) = zZ D r := nTu_eq _ _ _ (by omega) (fun i hi => by rw [kt i hi, qTurn_t]; have := zT_b (D := D) (r := r) (k := i); omega) (by rw [k9.1]; rfl)
  have e1 : pLn T tl p = (true, p + 2 + zZ D r) := by
    unfold pLn
    rw [if_pos e0]
    unfold pRul
    rw [if_pos (show kdT T tl (p + 1) = 2 from k1.1), nT, decide_eq_true hz.1]
  have hlen : (kR1 D r).length = 2 + (zZ D r + 1) := by
    show (_ ++ (kT D r (zZ D r) ++ _)).length = _
    rw [List.length_append, List.length_append, kT_len]
    rfl
  refine ⟨?_, ?_, by rw [e0]; decide⟩
  · rw [pLnE_of e1 k9.1, hlen, show p + 2 + zZ D r + 1 = p + (2 + (zZ D r + 1)) by omega]
  · obtain ⟨h1, h2, ⟨a1, a2, a3⟩, h4, h5, h6, ⟨n1, n2⟩⟩ := h
    have hkey : keyT T tl (p + 1) = 693 + r := k1.2.2.1 rfl
    have eo : rulO T tl (p + 1) σ = none := by
      unfold rulO
      rw [hkey, h2]
      exact ixN_none r 0 (fun i _ hi => by rw [n1 i (by omega)]; omega)
    have es : sRul T tl (p + 1) σ = (pRule (sgP σ), sgY σ, fun k => if k = pg_r (sgP σ) then keyT T tl (p + 1) else sgN σ k, sgA σ, sgE σ, sgL σ) := by
      unfold sRul
      rw [if_pos (by omega), eo]
      rfl
    have hI : IT D r 0 (sRul T tl (p + 1) σ) := by
      rw [es]
      refine ⟨h1, by show pg_r (sgP σ) + 1 = _; omega, ⟨fun i hi => ?_, a2, a3⟩, ⟨?_, fun e he => absurd he (Nat.not_lt_zero e)⟩, h4, h6, ⟨fun i hi => ?_, n2⟩⟩
      · show (if i = pg_r (sgP σ) then 0 else pg_z (sgP σ) i) = _
        rw [if_neg (by omega)]
        exact a1 i hi
      · show (if r = pg_r (sgP σ) then 0 else pg_z (sgP σ) r) = _
        rw [if_pos h2.symm]
      · show (if i = pg_r (sgP σ) then keyT T tl (p + 1) else sgN σ i) = _
        by_cases q2 : i = pg_r (sgP σ)
        · rw [if_pos q2, hkey]; omega
        · rw [if_neg q2]; exact n1 i (by omega)
    have hI2 := IT_s (T := T) (tl := tl) (zZ D r) (p + 2) 0 _ hI (by omega) (fun i hi => by rw [Nat.zero_add]; exact kt i hi)
    rw [Nat.zero_add] at hI2
    have ef : sLn T tl p σ = sTurns T tl (zZ D r) (p + 2) (sRul T tl (p + 1) σ) := by
      unfold sLn
      rw [if_pos e0]
      unfold sRulL
      rw [nT]
    rw [ef]
    obtain ⟨g1, g2, ⟨c1, c2, c3⟩, ⟨d1, d2⟩, g5, g6, g7⟩ := hI2
    refine ⟨g1, g2, ⟨fun i hi => ?_, fun i hi c hc => ?_, c3⟩, g5, fun i hi => absurd hi (Nat.not_lt_zero i), g6, g7⟩
    · by_cases q2 : i = r
      · rw [q2]; exact d1
      · exact c1 i (by omega)
    · by_cases q2 : i = r
      · rw [q2] at hc ⊢; exact d2 c hc
      · exact c2 i (by omega) c hc
theorem pPre_c {kd : Nat → Nat} {f : Nat → Bool} {l : List (Nat → Bool)} {p : Nat} (h : f (kd p) = true) : pPre kd (f :: l) p = pPre kd l (p + 1) := if_pos h
theorem eQ_k {n k : Nat} (h : k = n) : eQ n k = true := eQ_t.mpr h
theorem sRn_in {lo hi n pl : Nat} {τ : aS} (h : lo ≤ n ∧ n ≤ hi) : sRn lo hi n pl τ = τ := if_pos h
theorem nRn_in {lo hi n : Nat} (h : lo ≤ n ∧ n ≤ hi) : nRn lo hi n = n := if_pos h
/-- an ant's line -/
theorem L_ant (ha : a < zN D) (h : IS D (zR D) a 0 0 σ) (hL : HL T tl p (kA1 D a)) : pLnE T tl p = (true, p + (kA1 D a).length) ∧ IS D (zR D) (a + 1) 0 0 (sLn T tl p σ) ∧ kdT T tl p ≠ 0 := by
  have hN5 := zN_b (D := D)
  have hr0 := zAr_b (D := D) (a := a)
  have hx0 := zAx_b (D := D) (a := a)
  have hy0 := zAy_b (D := D) (a := a)
  have hs0 := zAs_b (D := D) (a := a)
  have k0 := hL 0 (show 0 < 10 by decide)
  have k1 := hL 1 (show 1 < 10 by decide)
  have k2 := hL 2 (show 2 < 10 by decide)
  have k3 := hL 3 (show 3 < 10 by decide)
  have k4 := hL 4 (show 4 < 10 by decide)
  have k5 := hL 5 (show 5 < 10 by decide)
  have k6 := hL 6 (show 6 < 10 by decide)
  have k7 := hL 7 (show 7 < 10 by decide)
  have k8 := hL 8 (show 8 < 10 by decide)
  have k9 := hL 9 (show 9 < 10 by decide)
  rw [Nat.add_zero] at k0
  have e0 : kdT T tl p = 205 := k0.1
  have e8 : kdT T tl (p + 8) = 209 + zAs D a := k8.1
  have e5 : numT T tl (p + 5) = zAx D a := k5.2.2.2 rfl
  have e6 : numT T tl (p + 6) = zAy D a := k6.2.2.2 rfl
  have y1 : keyT T tl (p + 1) = 64 + a := k1.2.2.1 rfl
  have y3 : keyT T tl (p + 3) = 693 + zAr D a := k3.2.2.1 rfl
  have ep : pPre (kdT T tl) antQ (p + 1) = (true, p + 9) := (pPre_c (p := p + 1) (eQ_k k1.1)).trans ((pPre_c (p := p + 2) (eQ_k k2.1)).trans ((pPre_c (p := p + 3) (eQ_k k3.1)).trans ((pPre_c (p := p + 4) (eQ_k k4.1)).trans ((pPre_c (p := p + 5) (eQ_k k5.1)).trans ((pPre_c (p := p + 6) (eQ_k k6.1)).trans ((pPre_c (p := p + 7) (eQ_k k7.1)).trans (pPre_c (p := p + 8) (l := []) (by rw [e8, qSide_t]; omega))))))))
  have e1 : pLn T tl p = (true, p + 9) := by
    unfold pLn
    rw [if_neg (by omega), if_pos e0]
    exact ep
  refine ⟨pLnE_of e1 k9.1, ?_, by rw [e0]; decide⟩
  obtain ⟨h1, h2, h3, h4, h5, ⟨c1, c2, c3, c4, c5, c6, c7⟩, ⟨n1, n2⟩⟩ := h
  have eo : antO T tl (p + 1) σ = none := by
    unfold antO
    rw [y1, c2]
    exact ixN_none a 0 (fun i _ hi => by rw [n2 i (by omega)]; omega)
  have es : sAnt T tl (p + 1) σ = (sgP σ, aBegin (sgY σ), sgN σ, fun k => if k = yd_n (sgY σ) then keyT T tl (p + 1) else sgA σ k, sgE σ, sgL σ) := by
    unfold sAnt
    rw [if_pos (by omega), eo]
    rfl
  have er : rulO T tl (p + 3) (sAnt T tl (p + 1) σ) = some (zAr D a) := by
    rw [es]
    unfold rulO
    rw [y3]
    show ixN (sgN σ) (693 + zAr D a) (pg_r (sgP σ)) 0 = _
    rw [h2]
    exact ixN_some _ 0 (fun i _ hi => by rw [n1 i (by omega)]; omega) (n1 _ hr0) (Nat.zero_le _) (by omega)
  have ef : sLn T tl p σ = sUp (anFace (zAs D a)) (sUp (anMove (zAx D a) (zAy D a)) (sUp (anRule (zAr D a)) (sAnt T tl (p + 1) σ))) := by
    unfold sLn
    rw [if_neg (by omega), if_pos e0]
    unfold sAntL sAnt1 sRulN
    rw [er, e5, e6, e8, nRn_in ⟨Nat.zero_le _, by omega⟩, nRn_in ⟨Nat.zero_le _, by omega⟩, sRn_in ⟨Nat.zero_le _, by omega⟩, sRn_in ⟨Nat.zero_le _, by omega⟩, show 209 + zAs D a - 209 = zAs D a by omega]
    rfl
  rw [ef, es]
  have hn : yd_n (aBegin (sgY σ)) - 1 = a := by
    show yd_n (sgY σ) + 1 - 1 = a
    omega
  refine ⟨h1, h2, h3, h4, h5, ⟨c1, by show yd_n (sgY σ) + 1 = _; omega, fun i hi => ?_, c4, c5, c6, c7⟩, ⟨n1, fun i hi => ?_⟩⟩
  · show (if i = yd_n (aBegin (sgY σ)) - 1 then anFace (zAs D a) (if yd_n (aBegin (sgY σ)) - 1 = yd_n (aBegin (sgY σ)) - 1 then anMove (zAx D a) (zAy D a) (if yd_n (aBegin (sgY σ)) - 1 = yd_n (aBegin (sgY σ)) - 1 then anRule (zAr D a) (if yd_n (aBegin (sgY σ)) - 1 = yd_n (sgY σ) then an0 else yd_a (sgY σ) (yd_n (aBegin (sgY σ)) - 1)) else _) else _) else (if i = yd_n (aBegin (sgY σ)) - 1 then _ else (if i = yd_n (aBegin (sgY σ)) - 1 then _ else (if i = yd_n (sgY σ) then an0 else yd_a (sgY σ) i)))) = _
    rw [hn]
    by_cases q2 : i = a
    · rw [if_pos q2, if_pos rfl, if_pos rfl, if_pos c2.symm, q2]
      rfl
    · rw [if_neg q2, if_neg q2, if_neg q2, if_neg (by omega)]
      exact c3 i (by omega)
  · show (if i = yd_n (sgY σ) then keyT T tl (p + 1) else sgA σ i) = _
    by_cases q2 : i = yd_n (sgY σ)
    · rw [if_pos q2, y1]; omega
    · rw [if_neg q2]; exact n2 i (by omega)
/-- a stone's line -/
theorem L_paint (h : IS D (zR D) (zN D) j 0 σ) (hL : HL T tl p (kP1 D (zPn D - j))) : pLnE T tl p = (true, p + (kP1 D (zPn D - j)).length) ∧ IS D (zR D) (zN D) (j + 1) 0 (sLn T tl p σ) ∧ kdT T tl p ≠ 0 := by
  have hx0 := zPc_b (D := D) (k := zPn D - j)
  have hy0 := zPr_b (D := D) (k := zPn D - j)
  have hv0 := zPv_b (D := D) (k := zPn D - j)
  have k0 := hL 0 (show 0 < 5 by decide)
  have k1 := hL 1 (show 1 < 5 by decide)
  have k2 := hL 2 (show 2 < 5 by decide)
  have k3 := hL 3 (show 3 < 5 by decide)
  have k4 := hL 4 (show 4 < 5 by decide)
  rw [Nat.add_zero] at k0
  have e0 : kdT T tl p = 213 := k0.1
  have n1 : numT T tl (p + 1) = zPc D (zPn D - j) := k1.2.2.2 rfl
  have n2 : numT T tl (p + 2) = zPr D (zPn D - j) := k2.2.2.2 rfl
  have n3 : numT T tl (p + 3) = zPv D (zPn D - j) := k3.2.2.2 rfl
  have ep : pPre (kdT T tl) paintQ (p + 1) = (true, p + 4) := (pPre_c (p := p + 1) (eQ_k k1.1)).trans ((pPre_c (p := p + 2) (eQ_k k2.1)).trans (pPre_c (p := p + 3) (l := []) (eQ_k k3.1)))
  have e1 : pLn T tl p = (true, p + 4) := by
    unfold pLn
    rw [if_neg (by omega), if_neg (by omega), if_pos e0]
    exact ep
  refine ⟨pLnE_of e1 k4.1, ?_, by rw [e0]; decide⟩
  have ef : sLn T tl p σ = sSetY (aSet (zPr D (zPn D - j) * 64 + zPc D (zPn D - j)) (zPv D (zPn D - j)) (sgY σ)) σ := by
    unfold sLn
    rw [if_neg (by omega), if_neg (by omega), if_pos e0]
    unfold sPaint
    rw [n1, n2, n3, nRn_in ⟨Nat.zero_le _, by omega⟩, nRn_in ⟨Nat.zero_le _, by omega⟩, nRn_in ⟨Nat.zero_le _, by omega⟩, sRn_in ⟨Nat.zero_le _, by omega⟩, sRn_in ⟨Nat.zero_le _, by omega⟩, sRn_in ⟨Nat.zero_le _, by omega⟩]
  rw [ef]
  obtain ⟨h1, h2, h3, h4, h5, ⟨c1, c2, c3, c4, c5, c6, c7⟩, h7⟩ := h
  refine ⟨h1, h2, h3, h4, h5, ⟨?_, c2, c3, c4, c5, c6, c7⟩, h7⟩
  show cSet (yd_c (sgY σ)) (zPr D (zPn D - j) * 64 + zPc D (zPn D - j)) (zPv D (zPn D - j)) = cSet (zC D j) (64 * zPr D (zPn D - j) + zPc D (zPn D - j)) (zPv D (zPn D - j))
  rw [c1, Nat.mul_comm]
end Ln1
