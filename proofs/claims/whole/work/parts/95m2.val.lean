/-! what is read is well made -/
/-- rules have turns, ants have rules, orders have their ants and their tests -/
def VI (σ : aS) : Prop := ((∀ r, r < pg_r (sgP σ) → 1 ≤ pg_z (sgP σ) r) ∧ ∀ r k, pg_t (sgP σ) r k < 4) ∧ vR (sgP σ) (sgY σ) ∧ ∀ k, k < pg_o (sgP σ) → ∀ n, yd_n (sgY σ) ≤ n → vOrd n (pg_k (sgP σ) k) (pg_f (sgP σ) k) (pg_s (sgP σ) k) ∧ tyL n (pg_T (sgP σ) k) [] = some [true]
section ValR
variable {T : Nat → Nat} {tl p : Nat} {σ : aS}
theorem ty1_re {n n' : Nat} {o : aO} {st s : List Bool} (h : ty1 n o st = some s) (hn : isA o.1 = true → o.2.toNatClampNeg < n') : ty1 n' o st = some s := by
  unfold ty1 at h ⊢
  by_cases g1 : opc o.1 = 1 ∨ opc o.1 = 2
  · rw [if_pos g1] at h ⊢; exact h
  rw [if_neg g1] at h ⊢
  by_cases g3 : opc o.1 = 3
  · rw [if_pos g3] at h ⊢
    have := hn (by unfold isA; rw [g3]; rfl)
    split at h
    · next q => rw [if_pos ⟨q.1, q.2.1, this⟩]; exact h
    · cases h
  rw [if_neg g3] at h ⊢
  by_cases g4 : opc o.1 = 4
  · rw [if_pos g4] at h ⊢
    have := hn (by unfold isA; rw [g4]; rfl)
    split at h
    · next q => rw [if_pos ⟨q.1, q.2.1, this⟩]; exact h
    · cases h
  rw [if_neg g4] at h ⊢
  exact h
theorem tyL_re {n n' : Nat} : ∀ (L : List aO) (st s : List Bool), tyL n L st = some s → (∀ o ∈ L, isA o.1 = true → o.2.toNatClampNeg < n') → tyL n' L st = some s := by
  intro L
  induction L with
  | nil => intro st s h _; exact h
  | cons o L ih =>
    intro st s h hn
    rw [tyL] at h ⊢
    cases e : ty1 n o st with
    | none => rw [e] at h; cases h
    | some s1 =>
      rw [e] at h
      rw [ty1_re e (hn o List.mem_cons_self)]
      exact ih s1 s h (fun o' ho' => hn o' (List.mem_cons_of_mem _ ho'))
theorem sOps_ne : ∀ (L : List sO) (τ : aS), sgE τ = 0 → sgE (sOps T tl L τ) = 0 → ∀ o ∈ L, isA o.1 = true → antO T tl o.2 τ ≠ none := by
  intro L
  induction L with
  | nil => intro τ _ _ o ho; exact absurd ho List.not_mem_nil
  | cons o L ih =>
    intro τ h0 h1 o' ho' hA
    have h1 : sgE (sOps T tl L (sOp T tl o τ)) = 0 := h1
    have h2 : sgE (sOp T tl o τ) = 0 := by
      by_cases g : sgE (sOp T tl o τ) = 0
      · exact g
      · exact absurd ((kE_sOps L _ g).1.symm.trans h1) g
    obtain ⟨f1, f2, f3, f4⟩ := sOp_f (T := T) (tl := tl) o τ
    rcases List.mem_cons.mp ho' with e | e
    · rw [e] at hA ⊢
      intro q
      have := (sLk_e h0 (o := antO T tl o.2 τ) (pl := tkP T tl o.2)).1
      rw [if_pos q] at this
      have h3 : sgE (sOp T tl o τ) = sgE (sLk (antO T tl o.2 τ) (tkP T tl o.2) τ) := by
        unfold sOp
        rw [if_pos hA]
        rfl
      rw [h3, this] at h2
      exact absurd h2 (by decide)
    · have := ih _ h2 h1 o' e hA
      rw [antO_c f1 f3] at this
      exact this
theorem ops_ty {τ : aS} {L : List sO} {q : Nat} (hL : L = (pTest T tl q).2.2) (hq : (pTest T tl q).1 = true) (h6 : yd_n (sgY τ) ≤ 6) (h0 : sgE τ = 0) (h1 : sgE (sOps T tl L τ) = 0) {n : Nat} (hn : yd_n (sgY τ) ≤ n) : tyL n (L.map (cO T tl τ)) [] = some [true] := by
  have key := ty_pz (kd := kdT T tl) (n := 7) (f := cO T tl τ) (fun _ => rfl) (by decide) (fun o hA => ?_) 100 3 0 q [] (by decide) (by decide) hq (by decide)
  · rw [hL]
    refine tyL_re _ _ _ key (fun o ho hA => ?_)
    obtain ⟨o', h2, rfl⟩ := List.mem_map.mp ho
    have hA : isA o'.1 = true := hA
    have h3 := sOps_ne L τ h0 h1 o' (by rw [hL]; exact h2) hA
    obtain ⟨i, hi⟩ := Option.ne_none_iff_exists'.mp h3
    have h4 := ixN_lt _ _ _ hi
    have e1 : (cO T tl τ o').2 = zn i := by
      unfold cO
      show (if isA o'.1 = true then zn (ixD (antO T tl o'.2 τ)) else _) = _
      rw [if_pos hA, hi]
      rfl
    rw [e1, zn_nat (show i < 2147483648 by omega)]
    omega
  · refine ⟨ixD (antO T tl o.2 τ), ?_, ?_⟩
    · cases e : antO T tl o.2 τ with
      | none => show 0 < 7; decide
      | some i =>
        have h4 := ixN_lt _ _ _ e
        show i < 7
        omega
    · unfold cO
      exact if_pos hA
theorem turns_z : ∀ (m q : Nat) (τ : aS), sgE τ = 0 → sgE (sTurns T tl m q τ) = 0 → 1 ≤ pg_r (sgP τ) → pg_r (sgP (sTurns T tl m q τ)) = pg_r (sgP τ) ∧ sgY (sTurns T tl m q τ) = sgY τ ∧ pg_k (sgP (sTurns T tl m q τ)) = pg_k (sgP τ) ∧ pg_f (sgP (sTurns T tl m q τ)) = pg_f (sgP τ) ∧ pg_s (sgP (sTurns T tl m q τ)) = pg_s (sgP τ) ∧ ∀ r, (if r = pg_r (sgP τ) - 1 then pg_z (sgP τ) r + m else pg_z (sgP τ) r) ≤ pg_z (sgP (sTurns T tl m q τ)) r := by
  intro m
  induction m with
  | zero =>
    intro q τ h0 h1 hr
    refine ⟨rfl, rfl, rfl, rfl, rfl, fun r => ?_⟩
    show _ ≤ pg_z (sgP τ) r
    split <;> omega
  | succ m ih =>
    intro q τ h0 h1 hr
    have h1 : sgE (sTurns T tl m (q + 1) (sTurn T tl q τ)) = 0 := h1
    have h2 : sgE (sTurn T tl q τ) = 0 := by
      by_cases g : sgE (sTurn T tl q τ) = 0
      · exact g
      · exact absurd ((kE_sTurns m (q + 1) _ g).1.symm.trans h1) g
    have h3 : sTurn T tl q τ = sSetP (pTurn (kdT T tl q - 201) (sgP τ)) τ := by
      unfold sTurn at h2 ⊢
      by_cases g : pg_z (sgP τ) (pg_r (sgP τ) - 1) < 6
      · rw [if_pos g]
      · rw [if_neg g, (sC_e h0).1] at h2
        exact absurd h2 (by decide)
    have := ih (q + 1) (sTurn T tl q τ) h2 h1 (by rw [h3]; exact hr)
    rw [h3] at this
    show pg_r (sgP (sTurns T tl m (q + 1) (sTurn T tl q τ))) = _ ∧ sgY (sTurns T tl m (q + 1) (sTurn T tl q τ)) = _ ∧ pg_k (sgP (sTurns T tl m (q + 1) (sTurn T tl q τ))) = _ ∧ pg_f (sgP (sTurns T tl m (q + 1) (sTurn T tl q τ))) = _ ∧ pg_s (sgP (sTurns T tl m (q + 1) (sTurn T tl q τ))) = _ ∧ ∀ r, _ ≤ pg_z (sgP (sTurns T tl m (q + 1) (sTurn T tl q τ))) r
    rw [h3]
    obtain ⟨a, b, c, d, e, g⟩ := this
    refine ⟨a, b, c, d, e, fun r => Nat.le_trans ?_ (g r)⟩
    show _ ≤ if r = pg_r (sgP τ) - 1 then (if r = pg_r (sgP τ) - 1 then pg_z (sgP τ) r + 1 else pg_z (sgP τ) r) + m else (if r = pg_r (sgP τ) - 1 then pg_z (sgP τ) r + 1 else pg_z (sgP τ) r)
    by_cases e1 : r = pg_r (sgP τ) - 1
    · rw [if_pos e1, if_pos e1, if_pos e1]; omega
    · rw [if_neg e1, if_neg e1, if_neg e1]; omega
theorem turns_t : ∀ (m q : Nat) (τ : aS), (∀ j, q ≤ j → j < q + m → qTurn (kdT T tl j) = true) → (∀ r k, pg_t (sgP τ) r k < 4) → ∀ r k, pg_t (sgP (sTurns T tl m q τ)) r k < 4 := by
  intro m
  induction m with
  | zero => intro q τ _ h; exact h
  | succ m ih =>
    intro q τ hq h
    refine ih (q + 1) _ (fun j a b => hq j (by omega) (by omega)) (fun r k => ?_)
    have ht := qTurn_t.mp (hq q (Nat.le_refl _) (by omega))
    unfold sTurn
    split
    · show (if r = pg_r (sgP τ) - 1 ∧ k = pg_z (sgP τ) (pg_r (sgP τ) - 1) then kdT T tl q - 201 else pg_t (sgP τ) r k) < 4
      split
      · omega
      · exact h r k
    · rw [sC_P]
      exact h r k
theorem VI_line (h : VI σ) (hv : BB σ) (h0 : sgE σ = 0) (hl : (pLnE T tl p).1 = true) (hp : p < nT T tl) (hf : off (pg_T (sgP σ)) (pg_o (sgP σ)) ≤ p) (h1 : sgE (sLn T tl p σ) = 0) : VI (sLn T tl p σ) := by
  obtain ⟨⟨a1, a0⟩, a2, a3⟩ := h
  obtain ⟨g1, g2, g3⟩ := line_ok hl
  by_cases hk : isO (kdT T tl p) = true
  · obtain ⟨τ, a, b, e1, e2, e3, ⟨e4, e5⟩, e6, e7, e8⟩ := ord_form hk hl h0 hv h1
    have g4 := pLn_ord hk
    rw [g4] at g1 g2 g3
    obtain ⟨o1, o2, o3⟩ := ord_ok hp g1
    have q9 := kdT_lt (T := T) (tl := tl) (q := (pOrdL T tl p).2) (by omega)
    have hn := nT_le (T := T) (tl := tl)
    have eo : off (pg_T (sgP τ)) (pg_o (sgP τ)) = off (pg_T (sgP σ)) (pg_o (sgP σ)) := by
      rw [e4, off, e5]
      rw [off_congr (U := pg_T (sgP σ)) (pg_o (sgP σ)) (fun j hj => if_neg (by omega))]
      show _ + (if pg_o (sgP σ) = pg_o (sgP σ) then ([] : List aO) else pg_T (sgP σ) (pg_o (sgP σ))).length = _
      rw [if_pos rfl]
      rfl
    obtain ⟨s1, s2, s3, s4⟩ := sOps_f (T := T) (tl := tl) (lnL T tl p) τ (by omega) (by omega)
    have tt : ∃ q, lnL T tl p = (pTest T tl q).2.2 ∧ (pTest T tl q).1 = true := by
      unfold pOrdL at g1
      unfold lnL
      by_cases k1 : kdT T tl p = 214
      · rw [if_pos k1] at g1 ⊢
        exact ⟨_, rfl, (pThen_end g1).2.1⟩
      rw [if_neg k1] at g1 ⊢
      by_cases k2 : kdT T tl p = 216
      · rw [if_pos k2] at g1 ⊢
        exact ⟨_, rfl, (pThen_end g1).2.1⟩
      · rw [if_neg k2] at g1 ⊢
        exact ⟨_, rfl, (pThen_end g1).2.1⟩
    obtain ⟨q, t1, t2⟩ := tt
    rw [e1] at h1 ⊢
    have pR : pg_r (sgP τ) = pg_r (sgP σ) ∧ pg_z (sgP τ) = pg_z (sgP σ) ∧ pg_t (sgP τ) = pg_t (sgP σ) ∧ pg_k (sgP τ) = (fun j => if j = pg_o (sgP σ) then kdT T tl p else pg_k (sgP σ) j) ∧ pg_f (sgP τ) = (fun j => if j = pg_o (sgP σ) then a else (if j = pg_o (sgP σ) then 0 else pg_f (sgP σ) j)) ∧ pg_s (sgP τ) = (fun j => if j = pg_o (sgP σ) then b else (if j = pg_o (sgP σ) then 0 else pg_s (sgP σ) j)) := by
      rw [e6, pNums_in (by show 1 ≤ pg_o (sgP σ) + 1; omega)]
      exact ⟨rfl, rfl, rfl, rfl, rfl, rfl⟩
    obtain ⟨p1, p2, p0, p3, p4, p5⟩ := pR
    unfold VI
    rw [s1, e2, s4]
    refine ⟨⟨fun r hr => ?_, fun r k => ?_⟩, fun i hi => ?_, fun k hk2 n hn2 => ?_⟩
    · have hr : r < pg_r (sgP τ) := hr
      show 1 ≤ pg_z (sgP τ) r
      rw [p2]
      exact a1 r (by omega)
    · show pg_t (sgP τ) r k < 4
      rw [p0]
      exact a0 r k
    · show an_r (yd_a (sgY σ) i) < pg_r (sgP τ)
      rw [p1]
      exact a2 i hi
    · have hk2 : k < pg_o (sgP τ) := hk2
      show vOrd n (pg_k (sgP τ) k) (pg_f (sgP τ) k) (pg_s (sgP τ) k) ∧ tyL n (if k = pg_o (sgP τ) - 1 then pg_T (sgP τ) k ++ (lnL T tl p).map (cO T tl τ) else pg_T (sgP τ) k) [] = some [true]
      rw [p3, p4, p5, e5]
      show vOrd n (if k = pg_o (sgP σ) then kdT T tl p else pg_k (sgP σ) k) (if k = pg_o (sgP σ) then a else (if k = pg_o (sgP σ) then 0 else pg_f (sgP σ) k)) (if k = pg_o (sgP σ) then b else (if k = pg_o (sgP σ) then 0 else pg_s (sgP σ) k)) ∧ tyL n (if k = pg_o (sgP τ) - 1 then (if k = pg_o (sgP σ) then [] else pg_T (sgP σ) k) ++ (lnL T tl p).map (cO T tl τ) else (if k = pg_o (sgP σ) then [] else pg_T (sgP σ) k)) [] = some [true]
      by_cases g : k = pg_o (sgP σ)
      · rw [if_pos g, if_pos g, if_pos g, if_pos (show k = pg_o (sgP τ) - 1 by omega), if_pos g, List.nil_append]
        exact ⟨e8 n hn2, ops_ty t1 t2 (by rw [e2]; exact hv.2.2.2) e7 h1 (by rw [e2]; exact hn2)⟩
      · rw [if_neg g, if_neg g, if_neg g, if_neg g, if_neg g, if_neg (show ¬ k = pg_o (sgP τ) - 1 by omega), if_neg g]
        exact a3 k (by omega) n hn2
  · have hno : ¬ (kdT T tl p = 214 ∨ kdT T tl p = 216 ∨ kdT T tl p = 217 ∨ kdT T tl p = 218) := fun q => hk (isO_t.mpr q)
    unfold sLn at h1 ⊢
    by_cases k0 : kdT T tl p = 200
    · rw [if_pos k0] at h1 ⊢
      have eP : pLn T tl p = pRul (kdT T tl) p := if_pos k0
      rw [eP] at g1
      unfold pRul at g1
      by_cases k1 : kdT T tl (p + 1) = 2
      · rw [if_pos k1] at g1
        have g1 : 2 ≤ nTu (kdT T tl) 400 (p + 2) := of_decide_eq_true g1
        unfold sRulL at h1 ⊢
        have hE : sgE (sRul T tl (p + 1) σ) = 0 := by
          by_cases g : sgE (sRul T tl (p + 1) σ) = 0
          · exact g
          · exact absurd ((kE_sTurns _ _ _ g).1.symm.trans h1) g
        have re := (sRul_e (T := T) (tl := tl) (j := p + 1) h0 hv.1).1
        rw [hE] at re
        have b1 := (if_2 (by decide) re.symm).2
        have b2 := (if_1 (by decide) b1).1
        have hv1 := hv.1
        obtain ⟨c1, c2, c3, c4⟩ := sRul_0 (T := T) (tl := tl) (j := p + 1) (σ := σ) (by omega)
        obtain ⟨z1, z2, z3, z4, z5, z6⟩ := turns_z (T := T) (tl := tl) (nTu (kdT T tl) 400 (p + 2)) (p + 2) (sRul T tl (p + 1) σ) hE h1 (by rw [c1]; show 1 ≤ pg_r (sgP σ) + 1; omega)
        obtain ⟨z7, z8⟩ := sTurns_PT (T := T) (tl := tl) (nTu (kdT T tl) 400 (p + 2)) (p + 2) (sRul T tl (p + 1) σ)
        have zt := turns_t (T := T) (tl := tl) (nTu (kdT T tl) 400 (p + 2)) (p + 2) (sRul T tl (p + 1) σ) (fun j x y => nTu_in 400 (p + 2) j x y) (by rw [c1]; exact a0)
        unfold VI vR
        rw [z1, z2, z3, z4, z5, z7, z8]
        rw [c1] at z6
        rw [c1, c2]
        refine ⟨⟨fun r hr => ?_, zt⟩, fun i hi => ?_, fun k hk2 n hn2 => a3 k hk2 n hn2⟩
        · have hr : r < pg_r (sgP σ) + 1 := hr
          refine Nat.le_trans ?_ (z6 r)
          show 1 ≤ if r = pg_r (sgP σ) + 1 - 1 then (if r = pg_r (sgP σ) then 0 else pg_z (sgP σ) r) + _ else (if r = pg_r (sgP σ) then 0 else pg_z (sgP σ) r)
          by_cases g : r = pg_r (sgP σ)
          · rw [if_pos (by omega)]; omega
          · rw [if_neg (by omega), if_neg g]
            exact a1 r (by omega)
        · have := a2 i hi
          show an_r (yd_a (sgY σ) i) < pg_r (sgP σ) + 1
          omega
      · rw [if_neg k1] at g1
        exact absurd (show false = true from g1) (by decide)
    rw [if_neg k0] at h1 ⊢
    by_cases k5 : kdT T tl p = 205
    · rw [if_pos k5] at h1 ⊢
      have K1 : kE (sAnt T tl (p + 1) σ) (sAntL T tl p σ) := by
        unfold sAntL
        refine kE_tr ?_ kE_up
        refine kE_tr ?_ kE_up
        refine kE_tr ?_ kE_sRn
        refine kE_tr ?_ kE_sRn
        unfold sAnt1
        refine kE_tr ?_ kE_up
        unfold sRulN
        exact kE_sLk
      have K3 : kE (sLk (rulO T tl (p + 3) (sAnt T tl (p + 1) σ)) (tkP T tl (p + 3)) (sAnt T tl (p + 1) σ)) (sAntL T tl p σ) := by
        unfold sAntL
        refine kE_tr ?_ kE_up
        refine kE_tr ?_ kE_up
        refine kE_tr ?_ kE_sRn
        refine kE_tr ?_ kE_sRn
        unfold sAnt1 sRulN
        exact kE_up
      have nz : ∀ {τ : aS}, kE τ (sAntL T tl p σ) → sgE τ = 0 := fun {τ} q => by
        by_cases g : sgE τ = 0
        · exact g
        · exact absurd ((q g).1.symm.trans h1) g
      have hE1 := nz K1
      have hE3 := nz K3
      have hv6 := hv.2.2.2
      have re := (sAnt_e (T := T) (tl := tl) (j := p + 1) h0 hv6).1
      rw [hE1] at re
      have b1 := (if_2 (by decide) re.symm).2
      have b2 := (if_1 (by decide) b1).1
      obtain ⟨c1, c2, c3, c4⟩ := sAnt_0 (T := T) (tl := tl) (j := p + 1) (σ := σ) (by omega)
      have rl := (sLk_e hE1 (o := rulO T tl (p + 3) (sAnt T tl (p + 1) σ)) (pl := tkP T tl (p + 3))).1
      rw [hE3] at rl
      obtain ⟨i, hi⟩ := Option.ne_none_iff_exists'.mp (if_1 (by decide) rl.symm).1
      have hil := ixN_lt _ _ _ hi
      rw [c1] at hil
      have eP : sgP (sAntL T tl p σ) = sgP σ := by
        unfold sAntL sAnt1 sRulN
        show sgP (sRn _ _ _ _ (sRn _ _ _ _ (sUp _ _))) = _
        rw [(sRn_5 _ _ _ _ _).1, (sRn_5 _ _ _ _ _).1]
        show sgP (sLk _ _ _) = _
        rw [(sLk_5 _ _ _).1, c1]
      have eN : yd_n (sgY (sAntL T tl p σ)) = yd_n (sgY σ) + 1 := by
        unfold sAntL sAnt1 sRulN
        rw [sUp_n, sUp_n, sRn_n, sRn_n, sUp_n, sLk_n, c2]
        rfl
      have eA : ∀ j, an_r (yd_a (sgY (sAntL T tl p σ)) j) = if j = yd_n (sgY σ) then i else an_r (yd_a (sgY σ) j) := fun j => by
        have e1 : ∀ (f : aA → aA) (τ : aS), (∀ A, an_r (f A) = an_r A) → an_r (yd_a (sgY (sUp f τ)) j) = an_r (yd_a (sgY τ) j) := fun f τ hf2 => by
          show an_r (if j = yd_n (sgY τ) - 1 then f (yd_a (sgY τ) (yd_n (sgY τ) - 1)) else yd_a (sgY τ) j) = _
          split
          · next g => rw [hf2, g]
          · rfl
        unfold sAntL sAnt1 sRulN
        have fr : ∀ (t : Nat) (A : aA), an_r (anFace t A) = an_r A := fun _ _ => rfl
        rw [e1 (anFace (kdT T tl (p + 8) - 209)) _ (fr _), e1 (anMove (nRn 0 63 (numT T tl (p + 5))) (nRn 0 63 (numT T tl (p + 6)))) _ (fun _ => rfl), (sRn_5 _ _ _ _ _).2.1, (sRn_5 _ _ _ _ _).2.1, hi]
        show an_r (if j = yd_n (sgY (sLk (some i) (tkP T tl (p + 3)) (sAnt T tl (p + 1) σ))) - 1 then anRule (ixD (some i)) _ else yd_a (sgY (sLk (some i) (tkP T tl (p + 3)) (sAnt T tl (p + 1) σ))) j) = _
        rw [(sLk_5 _ _ _).2.1, c2]
        show an_r (if j = yd_n (sgY σ) + 1 - 1 then anRule i _ else (if j = yd_n (sgY σ) then an0 else yd_a (sgY σ) j)) = _
        by_cases g : j = yd_n (sgY σ)
        · rw [if_pos (by omega), if_pos g]
          rfl
        · rw [if_neg (by omega), if_neg g, if_neg g]
      unfold VI vR
      rw [eP, eN]
      refine ⟨⟨a1, a0⟩, fun j hj => ?_, fun k hk2 n hn2 => a3 k hk2 n (by omega)⟩
      rw [eA]
      by_cases g : j = yd_n (sgY σ)
      · rw [if_pos g]; omega
      · rw [if_neg g]; exact a2 j (by omega)
    · rw [if_neg k5] at h1 ⊢
      have k3 : kdT T tl p = 213 := by
        by_cases q : kdT T tl p = 213
        · exact q
        · exfalso
          unfold pLn at g1
          rw [if_neg k0, if_neg k5, if_neg q, if_neg (by omega), if_neg (by omega), if_neg (by omega)] at g1
          exact absurd (show false = true from g1) (by decide)
      rw [if_pos k3]
      have eP : sgP (sPaint T tl p σ) = sgP σ := by
        unfold sPaint
        show sgP (sRn _ _ _ _ (sRn _ _ _ _ (sRn _ _ _ _ σ))) = _
        rw [(sRn_5 _ _ _ _ _).1, (sRn_5 _ _ _ _ _).1, (sRn_5 _ _ _ _ _).1]
      unfold VI
      rw [eP]
      exact ⟨⟨a1, a0⟩, a2, a3⟩
theorem VI_0 : VI aS0 := ⟨⟨fun r hr => absurd hr (Nat.not_lt_zero r), fun r k => (by decide : (0 : Nat) < 4)⟩, fun i hi => absurd hi (Nat.not_lt_zero i), fun k hk => absurd hk (Nat.not_lt_zero k)⟩
end ValR
