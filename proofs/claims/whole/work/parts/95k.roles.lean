/-! roles of a line's tokens; bounds that lines keep -/
section Roles
variable {T : Nat → Nat} {tl : Nat}
/-- the roles that a line gives -/
def lnR (T : Nat → Nat) (tl p : Nat) (r : Nat → Nat) : Nat → Nat :=
  if isO (kdT T tl p) then roL (lnL T tl p) (roOrd (kdT T tl) p r)
  else if kdT T tl p = 200 then roRul p (nTu (kdT T tl) 400 (p + 2)) r else if kdT T tl p = 205 then roAnt p r else roPnt p r
def allR (T : Nat → Nat) (tl : Nat) : Nat → Nat → (Nat → Nat) → Nat → Nat
  | 0, _, r => r
  | f + 1, p, r => if kdT T tl p = 0 then r else allR T tl f (pLnE T tl p).2 (lnR T tl p r)
theorem lnS_R {p : Nat} {s : aM} : (lnS T tl p s).2.2.1 = lnR T tl p s.2.2.1 := by
  unfold lnS lnR
  split <;> rfl
theorem allS_R : ∀ (f p : Nat) (s : aM), (allS T tl f p s).2.2.1 = allR T tl f p s.2.2.1 := by
  intro f
  induction f with
  | zero => intro p s; rfl
  | succ f ih =>
    intro p s
    rw [allS, allR]
    split
    · rfl
    · rw [ih, lnS_R]
theorem roL_out : ∀ (L : List sO) (r : Nat → Nat) (j : Nat), (∀ o ∈ L, isA o.1 = true → o.2 ≠ j) → roL L r j = r j := by
  intro L
  induction L with
  | nil => intro r j _; rfl
  | cons o L ih =>
    intro r j h
    show roL L (roO r o) j = r j
    rw [ih _ _ (fun o' ho' => h o' (List.mem_cons_of_mem _ ho'))]
    unfold roO
    by_cases g : isA o.1 = true
    · rw [if_pos g]
      exact if_neg (fun e => h o List.mem_cons_self g e.symm)
    · rw [if_neg g]
theorem roL_in : ∀ (L : List sO) (r : Nat → Nat), ∀ o ∈ L, isA o.1 = true → roL L r o.2 = 14 := by
  intro L
  induction L with
  | nil => intro r o ho; exact absurd ho List.not_mem_nil
  | cons o L ih =>
    intro r o' ho' hA
    show roL L (roO r o) o'.2 = 14
    by_cases g : ∃ o2 ∈ L, isA o2.1 = true ∧ o2.2 = o'.2
    · obtain ⟨o2, a, b, c⟩ := g
      rw [← c]
      exact ih _ o2 a b
    · rw [roL_out _ _ _ (fun o2 a b c => g ⟨o2, a, b, c⟩)]
      rcases List.mem_cons.mp ho' with e | e
      · rw [← e]
        unfold roO
        rw [if_pos hA]
        exact if_pos rfl
      · exact absurd ⟨o', e, hA, rfl⟩ g
theorem pPre_t {kd : Nat → Nat} {q : Nat → Bool} {l : List (Nat → Bool)} {p : Nat} (h : (pPre kd (q :: l) p).1 = true) : q (kd p) = true ∧ (pPre kd l (p + 1)).1 = true := by
  rw [pPre] at h
  split at h
  · next g => exact ⟨g, h⟩
  · exact absurd (show false = true from h) (by decide)
theorem nTu_in {kd : Nat → Nat} : ∀ (f q j : Nat), q ≤ j → j < q + nTu kd f q → qTurn (kd j) = true := by
  intro f
  induction f with
  | zero => intro q j h1 h2; have h2 : j < q + 0 := h2; omega
  | succ f ih =>
    intro q j h1 h2
    rw [nTu_add] at h2
    split at h2
    · next g =>
      by_cases e : j = q
      · rw [e]; exact g
      · exact ih (q + 1) j (by omega) (by omega)
    · omega
theorem BB_c {σ σ' : aS} (h : BB σ) (h1 : sgP σ' = sgP σ) (h2 : yd_n (sgY σ') = yd_n (sgY σ)) : BB σ' := by
  unfold BB
  rw [h1, h2]
  exact h
theorem BB_sC {σ : aS} (h : BB σ) {e pl : Nat} : BB (sC e pl σ) := by
  unfold sC
  split
  · exact h
  · exact h
theorem BB_sRn {σ : aS} (h : BB σ) {lo hi n pl : Nat} : BB (sRn lo hi n pl σ) := by
  unfold sRn
  split
  · exact h
  · exact BB_sC h
theorem BB_sLk {σ : aS} (h : BB σ) {o : Option Nat} {pl : Nat} : BB (sLk o pl σ) := by
  unfold sLk
  split
  · exact BB_sC h
  · exact h
theorem BB_sNew {σ : aS} (h : BB σ) {o : Option Nat} {pl : Nat} : BB (sNew o pl σ) := by
  unfold sNew
  split
  · exact h
  · exact BB_sC h
theorem BB_sUp {σ : aS} (h : BB σ) {g : aA → aA} : BB (sUp g σ) := h
theorem BB_sRul {σ : aS} (h : BB σ) {j : Nat} : BB (sRul T tl j σ) := by
  by_cases g : pg_r (sgP σ) < 5
  · obtain ⟨a, b, _, _⟩ := sRul_0 (T := T) (tl := tl) (j := j) g
    unfold BB
    rw [a, b]
    refine ⟨g, fun r hr => ?_, h.2.2.1, h.2.2.2⟩
    have hr : r < pg_r (sgP σ) + 1 := hr
    show (if r = pg_r (sgP σ) then 0 else pg_z (sgP σ) r) ≤ 6
    split
    · omega
    · exact h.2.1 r (by omega)
  · unfold sRul
    rw [if_neg g]
    exact BB_sC (BB_sNew h)
theorem BB_sTurn {σ : aS} (h : BB σ) {j : Nat} : BB (sTurn T tl j σ) := by
  unfold sTurn
  split
  · next g =>
    refine ⟨h.1, fun r hr => ?_, h.2.2.1, h.2.2.2⟩
    have hr : r < pg_r (sgP σ) := hr
    show (if r = pg_r (sgP σ) - 1 then pg_z (sgP σ) r + 1 else pg_z (sgP σ) r) ≤ 6
    split
    · next e => rw [e]; omega
    · exact h.2.1 r hr
  · exact BB_sC h
theorem BB_sTurns : ∀ (m q : Nat) (σ : aS), BB σ → BB (sTurns T tl m q σ) := by
  intro m
  induction m with
  | zero => intro q σ h; exact h
  | succ m ih => intro q σ h; exact ih (q + 1) _ (BB_sTurn h)
theorem BB_sAnt {σ : aS} (h : BB σ) {j : Nat} : BB (sAnt T tl j σ) := by
  by_cases g : yd_n (sgY σ) < 6
  · obtain ⟨a, b, _, _⟩ := sAnt_0 (T := T) (tl := tl) (j := j) g
    unfold BB
    rw [a, b]
    exact ⟨h.1, h.2.1, h.2.2.1, g⟩
  · unfold sAnt
    rw [if_neg g]
    exact BB_sC (BB_sNew h)
theorem BB_sOrdr {σ : aS} (h : BB σ) {p : Nat} : BB (sOrdr T tl p σ) := by
  unfold sOrdr
  split
  · next g => exact ⟨h.1, h.2.1, g, h.2.2.2⟩
  · exact BB_sC h
theorem BB_sNums {σ : aS} (h : BB σ) {f s : Nat} : BB (sNums f s σ) := by
  unfold sNums pNums
  split
  · exact h
  · exact h
theorem BB_sOps {σ : aS} (h : BB σ) {L : List sO} : BB (sOps T tl L σ) := by
  obtain ⟨a, _, _, U, b⟩ := sOps_same (T := T) (tl := tl) L σ
  unfold BB
  rw [a, b]
  exact h
theorem BB_sLn {σ : aS} (h : BB σ) {p : Nat} : BB (sLn T tl p σ) := by
  unfold sLn
  split
  · exact BB_sTurns _ _ _ (BB_sRul h)
  split
  · unfold sAntL sAnt1 sRulN
    exact BB_sUp (BB_sUp (BB_sRn (BB_sRn (BB_sUp (BB_sLk (BB_sAnt h))))))
  split
  · unfold sPaint
    exact BB_c (BB_sRn (BB_sRn (BB_sRn h))) rfl (by
      show yd_n (sgY σ) = _
      rw [sRn_n, sRn_n, sRn_n])
  split
  · unfold sWash
    exact BB_sOps (BB_sNums (BB_sRn (BB_sRn (BB_sOrdr h))))
  split
  · unfold sFace sAntN
    exact BB_sOps (BB_sNums (BB_sLk (BB_sOrdr h)))
  · unfold sHalt sAntN
    exact BB_sOps (BB_sNums (BB_sLk (BB_sOrdr h)))
end Roles
