/-! the errors of the class's small words -/
section SecJ
variable {T : Nat → Nat} {tl j : Nat} {σ : aS}
theorem sC_e (h : sgE σ = 0) {e pl : Nat} : sgE (sC e pl σ) = e ∧ sgL (sC e pl σ) = pl := by
  unfold sC
  rw [if_pos h]
  exact ⟨rfl, rfl⟩
theorem sRn_e (h : sgE σ = 0) {lo hi n pl : Nat} : eAt (sRn lo hi n pl σ) (if lo ≤ n ∧ n ≤ hi then 0 else 5) pl := by
  unfold sRn
  by_cases g : lo ≤ n ∧ n ≤ hi
  · rw [if_pos g, if_pos g]
    exact ⟨h, fun q => absurd rfl q⟩
  · rw [if_neg g, if_neg g]
    exact ⟨(sC_e h).1, fun _ => (sC_e h).2⟩
theorem sLk_e (h : sgE σ = 0) {o : Option Nat} {pl : Nat} : eAt (sLk o pl σ) (if o = none then 3 else 0) pl := by
  unfold sLk
  by_cases g : o = none
  · rw [if_pos g, if_pos g]
    exact ⟨(sC_e h).1, fun _ => (sC_e h).2⟩
  · rw [if_neg g, if_neg g]
    exact ⟨h, fun q => absurd rfl q⟩
theorem sNew_e (h : sgE σ = 0) {o : Option Nat} {pl : Nat} : eAt (sNew o pl σ) (if o = none then 0 else 2) pl := by
  unfold sNew
  by_cases g : o = none
  · rw [if_pos g, if_pos g]
    exact ⟨h, fun q => absurd rfl q⟩
  · rw [if_neg g, if_neg g]
    exact ⟨(sC_e h).1, fun _ => (sC_e h).2⟩
theorem sRul_e (h : sgE σ = 0) (h5 : pg_r (sgP σ) ≤ 5) : eAt (sRul T tl j σ) (if rulO T tl j σ = none then (if pg_r (sgP σ) = 5 then 4 else 0) else 2) (tkP T tl j) := by
  have hN := sNew_e h (o := rulO T tl j σ) (pl := tkP T tl j)
  unfold sRul
  by_cases g : rulO T tl j σ = none
  · rw [if_pos g] at hN ⊢
    by_cases g2 : pg_r (sgP σ) = 5
    · rw [if_neg (show ¬ pg_r (sgP σ) < 5 by omega), if_pos g2]
      exact ⟨(sC_e hN.1).1, fun _ => (sC_e hN.1).2⟩
    · rw [if_pos (show pg_r (sgP σ) < 5 by omega), if_neg g2]
      exact ⟨hN.1, fun q => absurd rfl q⟩
  · rw [if_neg g] at hN ⊢
    by_cases g2 : pg_r (sgP σ) < 5
    · rw [if_pos g2]
      exact ⟨hN.1, fun _ => hN.2 (by decide)⟩
    · rw [if_neg g2]
      obtain ⟨a, b⟩ := kE_sC (e := 4) (pl := tkP T tl j) (σ := sNew (rulO T tl j σ) (tkP T tl j) σ) (by rw [hN.1]; decide)
      exact ⟨a.trans hN.1, fun _ => b.trans (hN.2 (by decide))⟩
theorem sAnt_e (h : sgE σ = 0) (h6 : yd_n (sgY σ) ≤ 6) : eAt (sAnt T tl j σ) (if antO T tl j σ = none then (if yd_n (sgY σ) = 6 then 4 else 0) else 2) (tkP T tl j) := by
  have hN := sNew_e h (o := antO T tl j σ) (pl := tkP T tl j)
  unfold sAnt
  by_cases g : antO T tl j σ = none
  · rw [if_pos g] at hN ⊢
    by_cases g2 : yd_n (sgY σ) = 6
    · rw [if_neg (show ¬ yd_n (sgY σ) < 6 by omega), if_pos g2]
      exact ⟨(sC_e hN.1).1, fun _ => (sC_e hN.1).2⟩
    · rw [if_pos (show yd_n (sgY σ) < 6 by omega), if_neg g2]
      exact ⟨hN.1, fun q => absurd rfl q⟩
  · rw [if_neg g] at hN ⊢
    by_cases g2 : yd_n (sgY σ) < 6
    · rw [if_pos g2]
      exact ⟨hN.1, fun _ => hN.2 (by decide)⟩
    · rw [if_neg g2]
      obtain ⟨a, b⟩ := kE_sC (e := 4) (pl := tkP T tl j) (σ := sNew (antO T tl j σ) (tkP T tl j) σ) (by rw [hN.1]; decide)
      exact ⟨a.trans hN.1, fun _ => b.trans (hN.2 (by decide))⟩
theorem sTurn_e (h : sgE σ = 0) (h6 : pg_z (sgP σ) (pg_r (sgP σ) - 1) ≤ 6) : eAt (sTurn T tl j σ) (if pg_z (sgP σ) (pg_r (sgP σ) - 1) = 6 then 4 else 0) (tkP T tl j) := by
  unfold sTurn
  by_cases g : pg_z (sgP σ) (pg_r (sgP σ) - 1) = 6
  · rw [if_pos g, if_neg (show ¬ pg_z (sgP σ) (pg_r (sgP σ) - 1) < 6 by omega)]
    exact ⟨(sC_e h).1, fun _ => (sC_e h).2⟩
  · rw [if_neg g, if_pos (show pg_z (sgP σ) (pg_r (sgP σ) - 1) < 6 by omega)]
    exact ⟨h, fun q => absurd rfl q⟩
theorem sOrdr_e (h : sgE σ = 0) (h20 : pg_o (sgP σ) ≤ 20) : eAt (sOrdr T tl j σ) (if pg_o (sgP σ) = 20 then 4 else 0) (tkP T tl j) := by
  unfold sOrdr
  by_cases g : pg_o (sgP σ) = 20
  · rw [if_pos g, if_neg (show ¬ pg_o (sgP σ) < 20 by omega)]
    exact ⟨(sC_e h).1, fun _ => (sC_e h).2⟩
  · rw [if_neg g, if_pos (show pg_o (sgP σ) < 20 by omega)]
    exact ⟨h, fun q => absurd rfl q⟩
/-- a change upon a change -/
theorem aAnt_two {i : Nat} {A B : aA} {Y : aY} : aAnt i B (aAnt i A Y) = aAnt i B Y := by
  have : (fun k => if k = i then B else (if k = i then A else yd_a Y k)) = fun k => if k = i then B else yd_a Y k := by
    funext k
    by_cases e : k = i
    · rw [if_pos e, if_pos e]
    · rw [if_neg e, if_neg e, if_neg e]
  show (yd_c Y, yd_n Y, (fun k => if k = i then B else (if k = i then A else yd_a Y k)), yd_t Y, yd_m Y, yd_w Y, yd_k Y) = _
  rw [this]
  rfl
theorem aAnt_i {i : Nat} {A : aA} {Y : aY} : yd_a (aAnt i A Y) i = A := if_pos rfl
theorem pNums_in {f s : Nat} {P : aP} (h : 1 ≤ pg_o P) : pNums f s P = (pg_r P, pg_z P, pg_t P, pg_o P, pg_k P, fun j => if j = pg_o P - 1 then f else pg_f P j, fun j => if j = pg_o P - 1 then s else pg_s P j, pg_T P) := if_neg (by omega)
theorem pNums_two {f s f' s' : Nat} {P : aP} (h : 1 ≤ pg_o P) : pNums f' s' (pNums f s P) = pNums f' s' P := by
  rw [pNums_in (P := P) h, pNums_in (P := P) h, pNums_in (by exact h)]
  have e : ∀ (a b : Nat) (g : Nat → Nat), (fun j => if j = pg_o P - 1 then b else (if j = pg_o P - 1 then a else g j)) = fun j => if j = pg_o P - 1 then b else g j := fun a b g => by
    funext k
    by_cases q : k = pg_o P - 1
    · rw [if_pos q, if_pos q]
    · rw [if_neg q, if_neg q, if_neg q]
  show (pg_r P, pg_z P, pg_t P, pg_o P, pg_k P, (fun j => if j = pg_o P - 1 then f' else (if j = pg_o P - 1 then f else pg_f P j)), (fun j => if j = pg_o P - 1 then s' else (if j = pg_o P - 1 then s else pg_s P j)), pg_T P) = _
  rw [e, e]
theorem pNums_o {f s : Nat} {P : aP} : pg_o (pNums f s P) = pg_o P := by
  unfold pNums
  split <;> rfl
theorem pNums_r {f s : Nat} {P : aP} : pg_r (pNums f s P) = pg_r P := by
  unfold pNums
  split <;> rfl
theorem pNums_at {f s : Nat} {P : aP} (h : 1 ≤ pg_o P) : pg_f (pNums f s P) (pg_o P - 1) = f ∧ pg_s (pNums f s P) (pg_o P - 1) = s := by
  rw [pNums_in h]
  exact ⟨if_pos rfl, if_pos rfl⟩
end SecJ
