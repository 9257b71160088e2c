/-! the semantic of lines: operations, and the first error stays -/
section Sem
variable {T : Nat → Nat} {tl : Nat}
def cO (T : Nat → Nat) (tl : Nat) (σ : aS) (o : sO) : aO := (o.1, if isA o.1 then zn (ixD (antO T tl o.2 σ)) else if o.1 = 3 ∨ o.1 = 220 ∨ o.1 = 221 then Int64.toInt32 (vlT T tl o.2) else 0)
theorem antO_c {σ σ' : aS} (hY : sgY σ' = sgY σ) (hA : sgA σ' = sgA σ) {t : Nat} : antO T tl t σ' = antO T tl t σ := by
  unfold antO
  rw [hY, hA]
theorem cO_c {σ σ' : aS} (hY : sgY σ' = sgY σ) (hA : sgA σ' = sgA σ) : cO T tl σ' = cO T tl σ := by
  funext o
  unfold cO
  rw [antO_c hY hA]
theorem sOp_f (o : sO) (σ : aS) : sgY (sOp T tl o σ) = sgY σ ∧ sgN (sOp T tl o σ) = sgN σ ∧ sgA (sOp T tl o σ) = sgA σ ∧ sgP (sOp T tl o σ) = pOp (cO T tl σ o) (sgP σ) := by
  unfold sOp cO
  by_cases h : isA o.1 = true
  · rw [if_pos h, if_pos h]
    obtain ⟨a, b, c, d⟩ := sLk_5 (antO T tl o.2 σ) (tkP T tl o.2) σ
    exact ⟨b, c, d, rfl⟩
  · rw [if_neg h, if_neg h]
    exact ⟨rfl, rfl, rfl, rfl⟩
theorem pOp_in {o : aO} {P : aP} (h1 : 1 ≤ pg_o P) (h2 : off (pg_T P) (pg_o P) < 400) : pOp o P = (pg_r P, pg_z P, pg_t P, pg_o P, pg_k P, pg_f P, pg_s P, fun j => if j = pg_o P - 1 then pg_T P j ++ [o] else pg_T P j) := by
  unfold pOp
  rw [if_neg (by omega)]
theorem off_last {U : Nat → List aO} {n : Nat} (h : 1 ≤ n) {X : List aO} : off (fun j => if j = n - 1 then U j ++ X else U j) n = off U n + X.length := by
  obtain ⟨m, rfl⟩ : ∃ m, n = m + 1 := ⟨n - 1, by omega⟩
  rw [off, off, off_congr (U := U) m (fun j hj => if_neg (by omega)), if_pos (by omega), List.length_append]
  omega
theorem sOps_f : ∀ (L : List sO) (σ : aS), 1 ≤ pg_o (sgP σ) → off (pg_T (sgP σ)) (pg_o (sgP σ)) + L.length ≤ 400 → sgY (sOps T tl L σ) = sgY σ ∧ sgN (sOps T tl L σ) = sgN σ ∧ sgA (sOps T tl L σ) = sgA σ ∧ sgP (sOps T tl L σ) = (pg_r (sgP σ), pg_z (sgP σ), pg_t (sgP σ), pg_o (sgP σ), pg_k (sgP σ), pg_f (sgP σ), pg_s (sgP σ), fun j => if j = pg_o (sgP σ) - 1 then pg_T (sgP σ) j ++ L.map (cO T tl σ) else pg_T (sgP σ) j) := by
  intro L
  induction L with
  | nil =>
    intro σ h1 h2
    refine ⟨rfl, rfl, rfl, ?_⟩
    have : (fun j => if j = pg_o (sgP σ) - 1 then pg_T (sgP σ) j ++ List.map (cO T tl σ) [] else pg_T (sgP σ) j) = pg_T (sgP σ) := by
      funext j
      split
      · exact List.append_nil _
      · rfl
    rw [this]
    rfl
  | cons o L ih =>
    intro σ h1 h2
    have h2 : off (pg_T (sgP σ)) (pg_o (sgP σ)) + (L.length + 1) ≤ 400 := h2
    obtain ⟨a, b, c, d⟩ := sOp_f (T := T) (tl := tl) o σ
    rw [pOp_in h1 (by omega)] at d
    have ho := off_last (U := pg_T (sgP σ)) (n := pg_o (sgP σ)) h1 (X := [cO T tl σ o])
    have ho : off (fun j => if j = pg_o (sgP σ) - 1 then pg_T (sgP σ) j ++ [cO T tl σ o] else pg_T (sgP σ) j) (pg_o (sgP σ)) = off (pg_T (sgP σ)) (pg_o (sgP σ)) + 1 := ho
    have := ih (sOp T tl o σ) (by rw [d]; exact h1) (by rw [d]; show off (fun j => if j = pg_o (sgP σ) - 1 then pg_T (sgP σ) j ++ [cO T tl σ o] else pg_T (sgP σ) j) (pg_o (sgP σ)) + L.length ≤ 400; omega)
    obtain ⟨i1, i2, i3, i4⟩ := this
    show sgY (sOps T tl L (sOp T tl o σ)) = _ ∧ sgN (sOps T tl L (sOp T tl o σ)) = _ ∧ sgA (sOps T tl L (sOp T tl o σ)) = _ ∧ sgP (sOps T tl L (sOp T tl o σ)) = _
    refine ⟨i1.trans a, i2.trans b, i3.trans c, i4.trans ?_⟩
    rw [cO_c a c, d]
    have : (fun j => if j = pg_o (sgP σ) - 1 then (if j = pg_o (sgP σ) - 1 then pg_T (sgP σ) j ++ [cO T tl σ o] else pg_T (sgP σ) j) ++ List.map (cO T tl σ) L else (if j = pg_o (sgP σ) - 1 then pg_T (sgP σ) j ++ [cO T tl σ o] else pg_T (sgP σ) j)) = fun j => if j = pg_o (sgP σ) - 1 then pg_T (sgP σ) j ++ List.map (cO T tl σ) (o :: L) else pg_T (sgP σ) j := by
      funext j
      by_cases e : j = pg_o (sgP σ) - 1
      · rw [if_pos e, if_pos e, if_pos e, List.append_assoc]
        rfl
      · rw [if_neg e, if_neg e, if_neg e]
    show (_, _, _, _, _, _, _, fun j => if j = pg_o (sgP σ) - 1 then (if j = pg_o (sgP σ) - 1 then pg_T (sgP σ) j ++ [cO T tl σ o] else pg_T (sgP σ) j) ++ List.map (cO T tl σ) L else (if j = pg_o (sgP σ) - 1 then pg_T (sgP σ) j ++ [cO T tl σ o] else pg_T (sgP σ) j)) = _
    rw [this]
/-- the first error stays -/
def kE (σ σ' : aS) : Prop := sgE σ ≠ 0 → sgE σ' = sgE σ ∧ sgL σ' = sgL σ
theorem kE_rf {σ : aS} : kE σ σ := fun _ => ⟨rfl, rfl⟩
theorem kE_tr {σ σ1 σ2 : aS} (h : kE σ σ1) (g : kE σ1 σ2) : kE σ σ2 := fun q => by
  obtain ⟨a, b⟩ := h q
  obtain ⟨c, d⟩ := g (by rw [a]; exact q)
  exact ⟨c.trans a, d.trans b⟩
theorem kE_sC {e pl : Nat} {σ : aS} : kE σ (sC e pl σ) := fun q => by
  unfold sC
  rw [if_neg q]
  exact ⟨rfl, rfl⟩
theorem kE_P {P : aP} {σ σ' : aS} (h : kE σ σ') : kE σ (sSetP P σ') := h
theorem kE_Y {Y : aY} {σ σ' : aS} (h : kE σ σ') : kE σ (sSetY Y σ') := h
theorem kE_sLk {o : Option Nat} {pl : Nat} {σ : aS} : kE σ (sLk o pl σ) := by
  unfold sLk
  split
  · exact kE_sC
  · exact kE_rf
theorem kE_sRn {lo hi n pl : Nat} {σ : aS} : kE σ (sRn lo hi n pl σ) := by
  unfold sRn
  split
  · exact kE_rf
  · exact kE_sC
theorem kE_sNew {o : Option Nat} {pl : Nat} {σ : aS} : kE σ (sNew o pl σ) := by
  unfold sNew
  split
  · exact kE_rf
  · exact kE_sC
theorem kE_sOp {o : sO} {σ : aS} : kE σ (sOp T tl o σ) := by
  unfold sOp
  split
  · exact kE_P kE_sLk
  · exact kE_P kE_rf
theorem kE_sOps : ∀ (L : List sO) (σ : aS), kE σ (sOps T tl L σ) := by
  intro L
  induction L with
  | nil => intro σ; exact kE_rf
  | cons o L ih => intro σ; exact kE_tr (kE_sOp (T := T) (tl := tl) (o := o)) (ih _)
theorem kE_sRul {j : Nat} {σ : aS} : kE σ (sRul T tl j σ) := by
  unfold sRul
  split
  · exact fun q => kE_sNew q
  · exact kE_tr kE_sNew kE_sC
theorem kE_sTurn {j : Nat} {σ : aS} : kE σ (sTurn T tl j σ) := by
  unfold sTurn
  split
  · exact kE_P kE_rf
  · exact kE_sC
theorem kE_sTurns : ∀ (m q : Nat) (σ : aS), kE σ (sTurns T tl m q σ) := by
  intro m
  induction m with
  | zero => intro q σ; exact kE_rf
  | succ m ih => intro q σ; exact kE_tr kE_sTurn (ih _ _)
theorem kE_sOrdr {p : Nat} {σ : aS} : kE σ (sOrdr T tl p σ) := by
  unfold sOrdr
  split
  · exact kE_P kE_rf
  · exact kE_sC
theorem kE_sAnt {j : Nat} {σ : aS} : kE σ (sAnt T tl j σ) := by
  unfold sAnt
  split
  · exact fun q => kE_sNew q
  · exact kE_tr kE_sNew kE_sC
theorem kE_up {f : aA → aA} {σ : aS} : kE σ (sUp f σ) := kE_Y kE_rf
theorem kE_sAntL {p : Nat} {σ : aS} : kE σ (sAntL T tl p σ) := by
  unfold sAntL
  refine kE_tr ?_ kE_up
  refine kE_tr ?_ kE_up
  refine kE_tr ?_ kE_sRn
  refine kE_tr ?_ kE_sRn
  unfold sAnt1
  refine kE_tr ?_ kE_up
  unfold sRulN
  exact kE_tr kE_sAnt kE_sLk
theorem kE_sPaint {p : Nat} {σ : aS} : kE σ (sPaint T tl p σ) := by
  unfold sPaint
  refine kE_Y ?_
  refine kE_tr ?_ kE_sRn
  refine kE_tr ?_ kE_sRn
  exact kE_sRn
theorem kE_sWash {p : Nat} {σ : aS} : kE σ (sWash T tl p σ) := by
  unfold sWash
  refine kE_tr ?_ (kE_sOps _ _)
  unfold sNums
  refine kE_P ?_
  refine kE_tr ?_ kE_sRn
  refine kE_tr ?_ kE_sRn
  exact kE_sOrdr
theorem kE_sFace {p : Nat} {σ : aS} : kE σ (sFace T tl p σ) := by
  unfold sFace
  refine kE_tr ?_ (kE_sOps _ _)
  unfold sNums
  refine kE_P ?_
  unfold sAntN
  exact kE_tr kE_sOrdr kE_sLk
theorem kE_sHalt {p : Nat} {σ : aS} : kE σ (sHalt T tl p σ) := by
  unfold sHalt
  refine kE_tr ?_ (kE_sOps _ _)
  unfold sNums
  refine kE_P ?_
  unfold sAntN
  exact kE_tr kE_sOrdr kE_sLk
theorem kE_sLn {p : Nat} {σ : aS} : kE σ (sLn T tl p σ) := by
  unfold sLn
  split
  · unfold sRulL
    exact kE_tr kE_sRul (kE_sTurns _ _ _)
  split
  · exact kE_sAntL
  split
  · exact kE_sPaint
  split
  · exact kE_sWash
  split
  · exact kE_sFace
  · exact kE_sHalt
theorem kE_sAll : ∀ (f p : Nat) (σ : aS), kE σ (sAll T tl f p σ) := by
  intro f
  induction f with
  | zero => intro p σ; exact kE_rf
  | succ f ih =>
    intro p σ
    rw [sAll]
    split
    · exact kE_rf
    · exact kE_tr kE_sLn (ih _ _)
end Sem
