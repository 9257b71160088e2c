/-! the reference's second pass: all lines -/
/-- an operation, with what the reference has found its ant to be -/
def cM (ad : Nat → Nat) (M : mS) (T : Nat → Nat) (tl : Nat) (o : sO) : aO := (o.1, if isA o.1 then mI M (ad 76) o.2 else if o.1 = 3 ∨ o.1 = 220 ∨ o.1 = 221 then Int64.toInt32 (vlT T tl o.2) else 0)
/-- the operations of the orders' lines -/
def orL (T : Nat → Nat) (tl : Nat) : Nat → Nat → List (List sO)
  | 0, _ => []
  | f + 1, p => if kdT T tl p = 0 then [] else (if isO (kdT T tl p) then [lnL T tl p] else []) ++ orL T tl f (pLnE T tl p).2
/-- the orders' tests: those of the lists Ls, which stand ahead of the token p -/
def TI (ad : Nat → Nat) (M : mS) (T : Nat → Nat) (tl p : Nat) (σ : aS) (Ls : List (List sO)) : Prop := Ls.length = pg_o (sgP σ) ∧ (∀ k, k < pg_o (sgP σ) → pg_T (sgP σ) k = (Ls.getD k []).map (cM ad M T tl)) ∧ (∀ L ∈ Ls, ∀ o ∈ L, isA o.1 = true → o.2 < p) ∧ off (pg_T (sgP σ)) (pg_o (sgP σ)) ≤ p
section LinesR
variable {G : gS} {ad : Nat → Nat} {M M' : mS} {T : Nat → Nat} {tl : Nat} {C : List Int32} {O : List Nat} {ro : Nat → Nat} {W : List (Nat × Nat)} {p x : Nat} {σ : aS} {Q : mS → Int32 → Prop}
theorem ord_form (hk : isO (kdT T tl p) = true) (hl : (pLnE T tl p).1 = true) (h0 : sgE σ = 0) (hv : BB σ) (he : sgE (sLn T tl p σ) = 0) : ∃ τ a b, sLn T tl p σ = sOps T tl (lnL T tl p) τ ∧ sgY τ = sgY σ ∧ sgA τ = sgA σ ∧ (pg_o (sgP τ) = pg_o (sgP σ) + 1 ∧ pg_T (sgP τ) = fun j => if j = pg_o (sgP σ) then [] else pg_T (sgP σ) j) ∧ sgP τ = pNums a b (pOrd (kdT T tl p) (sgP σ)) ∧ sgE τ = 0 ∧ ∀ n, yd_n (sgY σ) ≤ n → vOrd n (kdT T tl p) a b := by
  have k := isO_t.mp hk
  have ho := hv.2.2.1
  have oe := sOrdr_e (T := T) (tl := tl) (j := p) h0 ho
  have lt : kE (sOrdr T tl p σ) (sLn T tl p σ) → pg_o (sgP σ) < 20 := fun q => by
    by_cases g : pg_o (sgP σ) = 20
    · rw [if_pos g] at oe
      have := (q (by rw [oe.1]; decide)).1
      rw [he, oe.1] at this
      exact absurd this (by decide)
    · omega
  have lt0 : ∀ {τ : aS} {L : List sO}, sgE (sOps T tl L τ) = 0 → sgE τ = 0 := fun {τ L} q => by
    by_cases g : sgE τ = 0
    · exact g
    · exact absurd ((kE_sOps L τ g).1.symm.trans q) g
  have hz : pg_o (sgP σ) < 20 → sgE (sOrdr T tl p σ) = 0 := fun q => by
    rw [oe.1, if_neg (by omega)]
  have who : ∀ {σ1 : aS} {t pl : Nat}, sgE σ1 = 0 → sgY σ1 = sgY σ → sgE (sLk (antO T tl t σ1) pl σ1) = 0 → ∀ n, yd_n (sgY σ) ≤ n → ixD (antO T tl t σ1) < n := fun {σ1 t pl} q1 q2 q3 n hn => by
    have q4 := (sLk_e q1 (o := antO T tl t σ1) (pl := pl)).1
    rw [q3] at q4
    have q5 := (if_1 (by decide) q4.symm).1
    obtain ⟨i, hi⟩ := Option.ne_none_iff_exists'.mp q5
    have q6 := ixN_lt _ _ _ hi
    rw [q2] at q6
    rw [hi]
    show i < n
    omega
  obtain ⟨g1, _, _⟩ := line_ok hl
  unfold pLn at g1
  unfold sLn at he lt ⊢
  rw [if_neg (by omega), if_neg (by omega), if_neg (by omega)] at he lt g1 ⊢
  have fin : ∀ (a b : Nat) (τ : aS), sgP τ = pOrd (kdT T tl p) (sgP σ) → pg_o (sgP (sNums a b τ)) = pg_o (sgP σ) + 1 ∧ pg_T (sgP (sNums a b τ)) = fun j => if j = pg_o (sgP σ) then [] else pg_T (sgP σ) j := fun a b τ hτ => by
    have : sgP (sNums a b τ) = pNums a b (pOrd (kdT T tl p) (sgP σ)) := by show pNums a b (sgP τ) = _; rw [hτ]
    rw [this, pNums_in (by show 1 ≤ pg_o (sgP σ) + 1; omega)]
    exact ⟨rfl, rfl⟩
  by_cases k1 : kdT T tl p = 214
  · rw [if_pos k1] at he lt ⊢
    have hlt : pg_o (sgP σ) < 20 := lt (by
      unfold sWash
      refine kE_tr ?_ (kE_sOps _ _)
      unfold sNums
      refine kE_P ?_
      refine kE_tr ?_ kE_sRn
      exact kE_sRn)
    have e1 := sOrdr_0 (T := T) (tl := tl) (p := p) hlt
    have eL : lnL T tl p = (pTest T tl (p + 5)).2.2 := if_pos k1
    rw [eL]
    have eP : sgP (sRn (nRn 0 63 (numT T tl (p + 1))) 63 (numT T tl (p + 3)) (tkP T tl (p + 3)) (sRn 0 63 (numT T tl (p + 1)) (tkP T tl (p + 1)) (sOrdr T tl p σ))) = pOrd (kdT T tl p) (sgP σ) := by
      rw [(sRn_5 _ _ _ _ _).1, (sRn_5 _ _ _ _ _).1, e1]
      rfl
    refine ⟨_, _, _, rfl, ?_, ?_, fin _ _ _ eP, by show pNums _ _ (sgP (sRn (nRn 0 63 (numT T tl (p + 1))) 63 (numT T tl (p + 3)) (tkP T tl (p + 3)) (sRn 0 63 (numT T tl (p + 1)) (tkP T tl (p + 1)) (sOrdr T tl p σ)))) = _; rw [eP], lt0 he, fun n hn => Or.inl ⟨k1, ?_, ?_⟩⟩
    · show sgY (sRn _ _ _ _ (sRn _ _ _ _ (sOrdr T tl p σ))) = _
      rw [(sRn_5 _ _ _ _ _).2.1, (sRn_5 _ _ _ _ _).2.1, e1]
      rfl
    · show sgA (sRn _ _ _ _ (sRn _ _ _ _ (sOrdr T tl p σ))) = _
      rw [(sRn_5 _ _ _ _ _).2.2.2, (sRn_5 _ _ _ _ _).2.2.2, e1]
      rfl
    · have := nRn_le (lo := 0) (hi := 63) (n := numT T tl (p + 1)) (by decide)
      generalize nRn 0 63 (numT T tl (p + 1)) = u at this
      unfold nRn
      split <;> omega
    · have := nRn_le (lo := 0) (hi := 63) (n := numT T tl (p + 1)) (by decide)
      have := nRn_le (n := numT T tl (p + 3)) this
      omega
  rw [if_neg k1] at he lt ⊢
  by_cases k2 : kdT T tl p = 216
  · rw [if_pos k2] at he lt ⊢
    have hlt : pg_o (sgP σ) < 20 := lt (by
      unfold sFace
      refine kE_tr ?_ (kE_sOps _ _)
      unfold sNums
      refine kE_P ?_
      unfold sAntN
      exact kE_sLk)
    have e1 := sOrdr_0 (T := T) (tl := tl) (p := p) hlt
    have eL : lnL T tl p = (pTest T tl (p + 4)).2.2 := by unfold lnL; rw [if_neg k1, if_pos k2]
    rw [eL]
    have eP : sgP (sLk (antO T tl (p + 1) (sOrdr T tl p σ)) (tkP T tl (p + 1)) (sOrdr T tl p σ)) = pOrd (kdT T tl p) (sgP σ) := by
      rw [(sLk_5 _ _ _).1, e1]
      rfl
    rw [if_neg k1, if_pos k2] at g1
    obtain ⟨_, _, gp⟩ := pThen_end g1
    obtain ⟨_, gp⟩ := pPre_t gp
    obtain ⟨q2, _⟩ := pPre_t gp
    have q2 := qSide_t.mp q2
    have q2 : 209 ≤ kdT T tl (p + 2) ∧ kdT T tl (p + 2) ≤ 212 := q2
    have hE1 := lt0 he
    refine ⟨_, _, _, rfl, ?_, ?_, fin _ _ _ eP, by show pNums _ _ (sgP (sLk (antO T tl (p + 1) (sOrdr T tl p σ)) (tkP T tl (p + 1)) (sOrdr T tl p σ))) = _; rw [eP], hE1, fun n hn => Or.inr (Or.inl ⟨k2, who (hz hlt) (by rw [e1]; rfl) hE1 n hn, by omega⟩)⟩
    · show sgY (sLk _ _ (sOrdr T tl p σ)) = _
      rw [(sLk_5 _ _ _).2.1, e1]
      rfl
    · show sgA (sLk _ _ (sOrdr T tl p σ)) = _
      rw [(sLk_5 _ _ _).2.2.2, e1]
      rfl
  · rw [if_neg k2] at he lt ⊢
    have hlt : pg_o (sgP σ) < 20 := lt (by
      unfold sHalt
      refine kE_tr ?_ (kE_sOps _ _)
      unfold sNums
      refine kE_P ?_
      unfold sAntN
      exact kE_sLk)
    have e1 := sOrdr_0 (T := T) (tl := tl) (p := p) hlt
    have eL : lnL T tl p = (pTest T tl (p + 3)).2.2 := by unfold lnL; rw [if_neg k1, if_neg k2]
    rw [eL]
    have eP : sgP (sLk (antO T tl (p + 1) (sOrdr T tl p σ)) (tkP T tl (p + 1)) (sOrdr T tl p σ)) = pOrd (kdT T tl p) (sgP σ) := by
      rw [(sLk_5 _ _ _).1, e1]
      rfl
    have hE1 := lt0 he
    refine ⟨_, _, _, rfl, ?_, ?_, fin _ _ _ eP, by show pNums _ _ (sgP (sLk (antO T tl (p + 1) (sOrdr T tl p σ)) (tkP T tl (p + 1)) (sOrdr T tl p σ))) = _; rw [eP], hE1, fun n hn => Or.inr (Or.inr ⟨by omega, who (hz hlt) (by rw [e1]; rfl) hE1 n hn⟩)⟩
    · show sgY (sLk _ _ (sOrdr T tl p σ)) = _
      rw [(sLk_5 _ _ _).2.1, e1]
      rfl
    · show sgA (sLk _ _ (sOrdr T tl p σ)) = _
      rw [(sLk_5 _ _ _).2.2.2, e1]
      rfl
theorem sTurns_PT : ∀ (m q : Nat) (τ : aS), pg_o (sgP (sTurns T tl m q τ)) = pg_o (sgP τ) ∧ pg_T (sgP (sTurns T tl m q τ)) = pg_T (sgP τ) := by
  intro m
  induction m with
  | zero => intro q τ; exact ⟨rfl, rfl⟩
  | succ m ih =>
    intro q τ
    obtain ⟨a, b⟩ := ih (q + 1) (sTurn T tl q τ)
    have : pg_o (sgP (sTurn T tl q τ)) = pg_o (sgP τ) ∧ pg_T (sgP (sTurn T tl q τ)) = pg_T (sgP τ) := by
      unfold sTurn
      split
      · exact ⟨rfl, rfl⟩
      · unfold sC
        split
        · exact ⟨rfl, rfl⟩
        · exact ⟨rfl, rfl⟩
    exact ⟨a.trans this.1, b.trans this.2⟩
theorem sC_P {e pl : Nat} : sgP (sC e pl σ) = sgP σ := by
  unfold sC
  split <;> rfl
theorem line_PT (hk : kdT T tl p = 200 ∨ kdT T tl p = 205 ∨ kdT T tl p = 213) : pg_o (sgP (sLn T tl p σ)) = pg_o (sgP σ) ∧ pg_T (sgP (sLn T tl p σ)) = pg_T (sgP σ) := by
  unfold sLn
  by_cases k1 : kdT T tl p = 200
  · rw [if_pos k1]
    unfold sRulL
    obtain ⟨a, b⟩ := sTurns_PT (T := T) (tl := tl) (nTu (kdT T tl) 400 (p + 2)) (p + 2) (sRul T tl (p + 1) σ)
    have : pg_o (sgP (sRul T tl (p + 1) σ)) = pg_o (sgP σ) ∧ pg_T (sgP (sRul T tl (p + 1) σ)) = pg_T (sgP σ) := by
      unfold sRul
      split
      · exact ⟨rfl, rfl⟩
      · rw [sC_P, (sNew_5 _ _ _).1]
        exact ⟨rfl, rfl⟩
    exact ⟨a.trans this.1, b.trans this.2⟩
  rw [if_neg k1]
  by_cases k2 : kdT T tl p = 205
  · rw [if_pos k2]
    have : sgP (sAntL T tl p σ) = sgP σ := by
      unfold sAntL sAnt1 sRulN
      show sgP (sRn _ _ _ _ (sRn _ _ _ _ (sUp _ _))) = _
      rw [(sRn_5 _ _ _ _ _).1, (sRn_5 _ _ _ _ _).1]
      show sgP (sLk _ _ _) = _
      rw [(sLk_5 _ _ _).1]
      unfold sAnt
      split
      · rfl
      · rw [sC_P, (sNew_5 _ _ _).1]
    rw [this]
    exact ⟨rfl, rfl⟩
  · rw [if_neg k2, if_pos (by omega)]
    have : sgP (sPaint T tl p σ) = sgP σ := by
      unfold sPaint
      show sgP (sRn _ _ _ _ (sRn _ _ _ _ (sRn _ _ _ _ σ))) = _
      rw [(sRn_5 _ _ _ _ _).1, (sRn_5 _ _ _ _ _).1, (sRn_5 _ _ _ _ _).1]
    rw [this]
    exact ⟨rfl, rfl⟩
theorem cM_keep {L : List sO} (hL : ∀ o ∈ L, isA o.1 = true → mI M' (ad 76) o.2 = mI M (ad 76) o.2) : L.map (cM ad M' T tl) = L.map (cM ad M T tl) := by
  refine List.map_congr_left (fun o ho => ?_)
  unfold cM
  by_cases g : isA o.1 = true
  · rw [if_pos g, if_pos g, hL o ho g]
  · rw [if_neg g, if_neg g]
theorem getD_mem' : ∀ (Ls : List (List sO)) (k : Nat), k < Ls.length → Ls.getD k [] ∈ Ls := by
  intro Ls
  induction Ls with
  | nil => intro k h; exact absurd h (Nat.not_lt_zero k)
  | cons L Ls ih =>
    intro k h
    match k with
    | 0 => exact List.mem_cons_self
    | k + 1 => exact List.mem_cons_of_mem _ (ih k (Nat.lt_of_succ_lt_succ h))
theorem getD_mem {Ls : List (List sO)} {k : Nat} (h : k < Ls.length) : Ls.getD k [] ∈ Ls := getD_mem' Ls k h
theorem getD_lt {α : Type} {a b : List α} {j : Nat} {d : α} (h : j < a.length) : (a ++ b).getD j d = a.getD j d := by
  simp [List.getD, List.getElem?_append_left h]
theorem TI_step {Ls : List (List sO)} (h : TI ad M T tl p σ Ls) (hl : (pLnE T tl p).1 = true) {e : Nat} (he : (pLnE T tl p).2 = e) (hp : p < nT T tl) (hpe : p ≤ e) (h0 : sgE σ = 0) (hv : BB σ) (h1 : sgE (sLn T tl p σ) = 0) (h76 : ∀ i, i < p → mI M' (ad 76) i = mI M (ad 76) i) (hm : isO (kdT T tl p) = true → ∀ o ∈ lnL T tl p, isA o.1 = true → mI M' (ad 76) o.2 = zn (ixD (antO T tl o.2 σ))) : TI ad M' T tl e (sLn T tl p σ) (Ls ++ if isO (kdT T tl p) then [lnL T tl p] else []) := by
  obtain ⟨a1, a2, a3, a4⟩ := h
  obtain ⟨g1, g2, g3⟩ := line_ok hl
  have old : ∀ k, k < pg_o (sgP σ) → pg_T (sgP σ) k = (Ls.getD k []).map (cM ad M' T tl) := fun k hk => by
    rw [a2 k hk]
    exact (cM_keep (fun o ho hA => h76 _ (a3 _ (getD_mem (by omega)) o ho hA))).symm
  by_cases hk : isO (kdT T tl p) = true
  · rw [if_pos hk]
    obtain ⟨τ, _, _, e1, e2, e3, ⟨e4, e5⟩, _⟩ := ord_form hk hl h0 hv h1
    rw [pLn_ord hk] at g1 g2 g3
    obtain ⟨o1, o2, o3⟩ := ord_ok hp g1
    have q9 := kdT_lt (T := T) (tl := tl) (q := (pOrdL T tl p).2) (by omega)
    have hn := nT_le (T := T) (tl := tl)
    have eo : off (pg_T (sgP τ)) (pg_o (sgP τ)) = off (pg_T (sgP σ)) (pg_o (sgP σ)) := by
      rw [e4, off, e5]
      rw [off_congr (U := pg_T (sgP σ)) (pg_o (sgP σ)) (fun j hj => if_neg (by omega))]
      show _ + (if pg_o (sgP σ) = pg_o (sgP σ) then ([] : List aO) else pg_T (sgP σ) (pg_o (sgP σ))).length = _
      rw [if_pos rfl]
      rfl
    obtain ⟨s1, s2, s3, s4⟩ := sOps_f (T := T) (tl := tl) (lnL T tl p) τ (by omega) (by omega)
    unfold TI
    rw [e1, s4]
    have mO : (lnL T tl p).map (cO T tl τ) = (lnL T tl p).map (cM ad M' T tl) := by
      refine List.map_congr_left (fun o ho => ?_)
      unfold cO cM
      by_cases g : isA o.1 = true
      · rw [if_pos g, if_pos g, hm hk o ho g, antO_c (σ := σ) (σ' := τ) e2 e3]
      · rw [if_neg g, if_neg g]
    refine ⟨?_, fun k hk2 => ?_, fun L hL o ho hA => ?_, ?_⟩
    · rw [List.length_append, a1]
      exact e4.symm
    · have hk2 : k < pg_o (sgP τ) := hk2
      show (if k = pg_o (sgP τ) - 1 then pg_T (sgP τ) k ++ (lnL T tl p).map (cO T tl τ) else pg_T (sgP τ) k) = _
      by_cases g : k = pg_o (sgP σ)
      · rw [if_pos (by omega), e5, mO]
        show (if k = pg_o (sgP σ) then ([] : List aO) else pg_T (sgP σ) k) ++ _ = _
        rw [if_pos g, g, ← a1]
        have := getD_app (a := Ls) (b := [lnL T tl p]) (j := 0) (d := [])
        have this : (Ls ++ [lnL T tl p]).getD Ls.length [] = lnL T tl p := this
        rw [this]
        rfl
      · rw [if_neg (by omega), e5]
        show (if k = pg_o (sgP σ) then ([] : List aO) else pg_T (sgP σ) k) = _
        rw [if_neg g, old k (by omega), getD_lt (by omega)]
    · rcases List.mem_append.mp hL with q | q
      · have := a3 L q o ho hA
        omega
      · rw [List.mem_singleton.mp q] at ho
        have := aInc_in o3 o ho hA
        omega
    · show off (fun j => if j = pg_o (sgP τ) - 1 then pg_T (sgP τ) j ++ (lnL T tl p).map (cO T tl τ) else pg_T (sgP τ) j) (pg_o (sgP τ)) ≤ e
      rw [off_last (by omega), List.length_map]
      omega
  · rw [if_neg hk, List.append_nil]
    have k3 : kdT T tl p = 200 ∨ kdT T tl p = 205 ∨ kdT T tl p = 213 := by
      by_cases q1 : kdT T tl p = 200
      · exact Or.inl q1
      by_cases q2 : kdT T tl p = 205
      · exact Or.inr (Or.inl q2)
      by_cases q3 : kdT T tl p = 213
      · exact Or.inr (Or.inr q3)
      exfalso
      have : ¬ (kdT T tl p = 214 ∨ kdT T tl p = 216 ∨ kdT T tl p = 217 ∨ kdT T tl p = 218) := fun q => hk (isO_t.mpr q)
      unfold pLn at g1
      rw [if_neg q1, if_neg q2, if_neg q3, if_neg (by omega), if_neg (by omega), if_neg (by omega)] at g1
      exact absurd (show false = true from g1) (by decide)
    obtain ⟨e1, e2⟩ := line_PT (σ := σ) k3
    unfold TI
    rw [e1, e2]
    exact ⟨a1, old, fun L hL o ho hA => by have := a3 L hL o ho hA; omega, by omega⟩
end LinesR
