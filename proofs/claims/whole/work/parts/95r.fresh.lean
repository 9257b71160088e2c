/-! a yard that is read is untouched; roles of names -/
section Fresh
variable {T : Nat → Nat} {tl p : Nat} {σ : aS}
theorem sC_Y {e pl : Nat} : sgY (sC e pl σ) = sgY σ := by
  unfold sC
  split <;> rfl
theorem YI_up (h : YI (sgY σ)) {f : aA → aA} (hf : ∀ A, an_w (f A) = an_w A ∧ an_t (f A) = an_t A ∧ (an_n A = 0 → an_n (f A) = 0) ∧ (vA A → vA (f A))) : YI (sgY (sUp f σ)) := by
  refine ⟨h.1, h.2.1, fun i hi => ?_⟩
  have hi : i < yd_n (sgY σ) := hi
  have hx := h.2.2 i hi
  show (an_w (if i = yd_n (sgY σ) - 1 then f (yd_a (sgY σ) (yd_n (sgY σ) - 1)) else yd_a (sgY σ) i) = 1 ∧ an_t (if i = yd_n (sgY σ) - 1 then f (yd_a (sgY σ) (yd_n (sgY σ) - 1)) else yd_a (sgY σ) i) = 0 ∧ an_n (if i = yd_n (sgY σ) - 1 then f (yd_a (sgY σ) (yd_n (sgY σ) - 1)) else yd_a (sgY σ) i) = 0) ∧ vA (if i = yd_n (sgY σ) - 1 then f (yd_a (sgY σ) (yd_n (sgY σ) - 1)) else yd_a (sgY σ) i)
  by_cases g : i = yd_n (sgY σ) - 1
  · rw [if_pos g]
    obtain ⟨a, b, c, d⟩ := hf (yd_a (sgY σ) (yd_n (sgY σ) - 1))
    rw [g] at hx
    exact ⟨⟨a.trans hx.1.1, b.trans hx.1.2.1, c hx.1.2.2⟩, d hx.2⟩
  · rw [if_neg g]
    exact hx
theorem vA_0 : vA an0 := ⟨by decide, by decide, by decide, by decide, by decide, fun _ => (by decide : (0 : Nat) < 4)⟩
theorem YI_ant (h : YI (sgY σ)) {j : Nat} : YI (sgY (sAnt T tl j σ)) := by
  by_cases g : yd_n (sgY σ) < 6
  · rw [(sAnt_0 (T := T) (tl := tl) (j := j) g).2.1]
    refine ⟨h.1, h.2.1, fun i hi => ?_⟩
    have hi : i < yd_n (sgY σ) + 1 := hi
    show (an_w (if i = yd_n (sgY σ) then an0 else yd_a (sgY σ) i) = 1 ∧ an_t (if i = yd_n (sgY σ) then an0 else yd_a (sgY σ) i) = 0 ∧ an_n (if i = yd_n (sgY σ) then an0 else yd_a (sgY σ) i) = 0) ∧ vA (if i = yd_n (sgY σ) then an0 else yd_a (sgY σ) i)
    by_cases e : i = yd_n (sgY σ)
    · rw [if_pos e]; exact ⟨⟨rfl, rfl, rfl⟩, vA_0⟩
    · rw [if_neg e]; exact h.2.2 i (by omega)
  · unfold sAnt
    rw [if_neg g, sC_Y, (sNew_5 _ _ _).2.1]
    exact h
theorem rulO_lt {τ : aS} {j : Nat} (h : pg_r (sgP τ) ≤ 5) : ixD (rulO T tl j τ) < 5 := by
  cases e : rulO T tl j τ with
  | none => show 0 < 5; decide
  | some i =>
    have := ixN_lt _ _ _ e
    show i < 5
    omega
theorem an_rule {r : Nat} (hr : r < 5) (A : aA) : an_w (anRule r A) = an_w A ∧ an_t (anRule r A) = an_t A ∧ (an_n A = 0 → an_n (anRule r A) = 0) ∧ (vA A → vA (anRule r A)) := ⟨rfl, rfl, fun q => q, fun q => ⟨hr, q.2⟩⟩
theorem an_move {x y : Nat} (hx : x < 64) (hy : y < 64) (A : aA) : an_w (anMove x y A) = an_w A ∧ an_t (anMove x y A) = an_t A ∧ (an_n A = 0 → an_n (anMove x y A) = 0) ∧ (vA A → vA (anMove x y A)) := ⟨rfl, rfl, fun _ => rfl, fun q => ⟨q.1, hx, hy, q.2.2.2⟩⟩
theorem an_face {t : Nat} (ht : t < 4) (A : aA) : an_w (anFace t A) = an_w A ∧ an_t (anFace t A) = an_t A ∧ (an_n A = 0 → an_n (anFace t A) = 0) ∧ (vA A → vA (anFace t A)) := ⟨rfl, rfl, fun _ => rfl, fun q => ⟨q.1, q.2.1, q.2.2.1, ht, q.2.2.2.2⟩⟩
theorem sTurns_Y : ∀ (m q : Nat) (τ : aS), sgY (sTurns T tl m q τ) = sgY τ := by
  intro m
  induction m with
  | zero => intro q τ; rfl
  | succ m ih =>
    intro q τ
    show sgY (sTurns T tl m (q + 1) (sTurn T tl q τ)) = _
    rw [ih]
    unfold sTurn
    split
    · rfl
    · exact sC_Y
theorem sOrdr_Y : sgY (sOrdr T tl p σ) = sgY σ := by
  unfold sOrdr
  split
  · rfl
  · exact sC_Y
theorem YI_line (h : YI (sgY σ)) (hv : BB σ) (hl : (pLnE T tl p).1 = true) : YI (sgY (sLn T tl p σ)) := by
  obtain ⟨g1, _, _⟩ := line_ok hl
  unfold pLn at g1
  unfold sLn
  split
  · unfold sRulL
    rw [sTurns_Y]
    unfold sRul
    split
    · exact h
    · rw [sC_Y, (sNew_5 _ _ _).2.1]
      exact h
  next k0 =>
  split
  · next k5 =>
    rw [if_neg k0, if_pos k5] at g1
    obtain ⟨_, g1⟩ := pPre_t g1
    obtain ⟨_, g1⟩ := pPre_t g1
    obtain ⟨_, g1⟩ := pPre_t g1
    obtain ⟨_, g1⟩ := pPre_t g1
    obtain ⟨_, g1⟩ := pPre_t g1
    obtain ⟨_, g1⟩ := pPre_t g1
    obtain ⟨_, g1⟩ := pPre_t g1
    obtain ⟨q8, _⟩ := pPre_t g1
    have q8 := qSide_t.mp q8
    have q8 : 209 ≤ kdT T tl (p + 8) ∧ kdT T tl (p + 8) ≤ 212 := q8
    have n1 := nRn_le (lo := 0) (hi := 63) (n := numT T tl (p + 5)) (by decide)
    have n2 := nRn_le (lo := 0) (hi := 63) (n := numT T tl (p + 6)) (by decide)
    unfold sAntL sAnt1 sRulN
    refine YI_up (YI_up ?_ (an_move (by omega) (by omega))) (an_face (by omega))
    rw [(sRn_5 _ _ _ _ _).2.1, (sRn_5 _ _ _ _ _).2.1]
    refine YI_up ?_ (an_rule (rulO_lt (BB_sAnt hv).1))
    rw [(sLk_5 _ _ _).2.1]
    exact YI_ant h
  split
  · have n1 := nRn_le (lo := 0) (hi := 5) (n := numT T tl (p + 3)) (by decide)
    unfold sPaint
    have : YI (sgY (sRn 0 5 (numT T tl (p + 3)) (tkP T tl (p + 3)) (sRn 0 63 (numT T tl (p + 2)) (tkP T tl (p + 2)) (sRn 0 63 (numT T tl (p + 1)) (tkP T tl (p + 1)) σ)))) := by
      rw [(sRn_5 _ _ _ _ _).2.1, (sRn_5 _ _ _ _ _).2.1, (sRn_5 _ _ _ _ _).2.1]
      exact h
    refine ⟨h.1, fun q => ?_, h.2.2⟩
    show (if q = nRn 0 63 (numT T tl (p + 2)) * 64 + nRn 0 63 (numT T tl (p + 1)) then nRn 0 5 (numT T tl (p + 3)) else yd_c (sgY σ) q) < 6
    split
    · omega
    · exact h.2.1 q
  split
  · unfold sWash
    rw [(sOps_same _ _).1]
    show YI (sgY (sRn _ _ _ _ (sRn _ _ _ _ (sOrdr T tl p σ))))
    rw [(sRn_5 _ _ _ _ _).2.1, (sRn_5 _ _ _ _ _).2.1, sOrdr_Y]
    exact h
  split
  · unfold sFace sAntN
    rw [(sOps_same _ _).1]
    show YI (sgY (sLk _ _ (sOrdr T tl p σ)))
    rw [(sLk_5 _ _ _).2.1, sOrdr_Y]
    exact h
  · unfold sHalt sAntN
    rw [(sOps_same _ _).1]
    show YI (sgY (sLk _ _ (sOrdr T tl p σ)))
    rw [(sLk_5 _ _ _).2.1, sOrdr_Y]
    exact h
theorem YI_all : ∀ (f p : Nat) (σ : aS), (pAll T tl f p).1 = true → BB σ → YI (sgY σ) → YI (sgY (sAll T tl f p σ)) := by
  intro f
  induction f with
  | zero => intro p σ _ _ h; exact h
  | succ f ih =>
    intro p σ h1 hv h
    rw [sAll]
    by_cases h0 : kdT T tl p = 0
    · rw [if_pos h0]; exact h
    · obtain ⟨a, b⟩ := pAll_su h1 h0
      rw [b] at h1
      rw [if_neg h0]
      exact ih _ _ h1 (BB_sLn hv) (YI_line h hv a)
theorem YI_0 : YI aY0 := ⟨⟨rfl, rfl, rfl, rfl⟩, fun _ => (by decide : (0 : Nat) < 6), fun i hi => absurd hi (Nat.not_lt_zero i)⟩
theorem BB_0 : BB aS0 := ⟨by decide, fun r hr => absurd hr (Nat.not_lt_zero r), by decide, by decide⟩
/-- an error's number is small -/
theorem E6_sC {e pl : Nat} (h : sgE σ < 6) (he : e < 6) : sgE (sC e pl σ) < 6 := by
  unfold sC
  split
  · exact he
  · exact h
theorem E6_sRn {lo hi n pl : Nat} (h : sgE σ < 6) : sgE (sRn lo hi n pl σ) < 6 := by
  unfold sRn
  split
  · exact h
  · exact E6_sC h (by decide)
theorem E6_sLk {o : Option Nat} {pl : Nat} (h : sgE σ < 6) : sgE (sLk o pl σ) < 6 := by
  unfold sLk
  split
  · exact E6_sC h (by decide)
  · exact h
theorem E6_sNew {o : Option Nat} {pl : Nat} (h : sgE σ < 6) : sgE (sNew o pl σ) < 6 := by
  unfold sNew
  split
  · exact h
  · exact E6_sC h (by decide)
theorem E6_turns : ∀ (m q : Nat) (σ : aS), sgE σ < 6 → sgE (sTurns T tl m q σ) < 6 := by
  intro m
  induction m with
  | zero => intro q σ h; exact h
  | succ m ih =>
    intro q σ h
    refine ih (q + 1) _ ?_
    unfold sTurn
    split
    · exact h
    · exact E6_sC h (by decide)
theorem E6_ops : ∀ (L : List sO) (σ : aS), sgE σ < 6 → sgE (sOps T tl L σ) < 6 := by
  intro L
  induction L with
  | nil => intro σ h; exact h
  | cons o L ih =>
    intro σ h
    refine ih _ ?_
    show sgE (sOp T tl o σ) < 6
    unfold sOp
    split
    · exact E6_sLk h
    · exact h
theorem E6_ord {q : Nat} (h : sgE σ < 6) : sgE (sOrdr T tl q σ) < 6 := by
  unfold sOrdr
  split
  · exact h
  · exact E6_sC h (by decide)
theorem E6_line (h : sgE σ < 6) : sgE (sLn T tl p σ) < 6 := by
  unfold sLn
  split
  · unfold sRulL
    refine E6_turns _ _ _ ?_
    unfold sRul
    split
    · exact E6_sNew (σ := σ) h
    · exact E6_sC (E6_sNew h) (by decide)
  split
  · unfold sAntL sAnt1 sRulN
    show sgE (sRn _ _ _ _ (sRn _ _ _ _ (sUp _ (sLk _ _ (sAnt T tl (p + 1) σ))))) < 6
    refine E6_sRn (E6_sRn ?_)
    show sgE (sLk _ _ (sAnt T tl (p + 1) σ)) < 6
    refine E6_sLk ?_
    unfold sAnt
    split
    · exact E6_sNew (σ := σ) h
    · exact E6_sC (E6_sNew h) (by decide)
  split
  · unfold sPaint
    exact E6_sRn (E6_sRn (E6_sRn h))
  split
  · unfold sWash
    exact E6_ops _ _ (E6_sRn (E6_sRn (E6_ord h)))
  split
  · unfold sFace sAntN
    exact E6_ops _ _ (E6_sLk (E6_ord h))
  · unfold sHalt sAntN
    exact E6_ops _ _ (E6_sLk (E6_ord h))
theorem E6_all : ∀ (f p : Nat) (σ : aS), sgE σ < 6 → sgE (sAll T tl f p σ) < 6 := by
  intro f
  induction f with
  | zero => intro p σ h; exact h
  | succ f ih =>
    intro p σ h
    rw [sAll]
    split
    · exact h
    · exact ih _ _ (E6_line h)
theorem tcE_6 : tcE T tl < 6 := by
  unfold tcE
  split
  · exact E6_all 400 0 aS0 (by decide)
  · decide
/-- roles of names are roles of names -/
def RK (T : Nat → Nat) (tl : Nat) (r : Nat → Nat) : Prop := ∀ i, r i < 15 ∧ (r i = 1 → kdT T tl i = 2) ∧ (r i = 2 → kdT T tl i = 2)
theorem RK_put {r : Nat → Nat} (h : RK T tl r) {q v : Nat} (hv : 3 ≤ v ∧ v < 15) : RK T tl (fun j => if j = q then v else r j) := by
  intro i
  show (if i = q then v else r i) < 15 ∧ ((if i = q then v else r i) = 1 → _) ∧ ((if i = q then v else r i) = 2 → _)
  by_cases e : i = q
  · rw [if_pos e]; exact ⟨hv.2, fun q => by omega, fun q => by omega⟩
  · rw [if_neg e]; exact h i
theorem RK_L : ∀ (L : List sO) (r : Nat → Nat), RK T tl r → RK T tl (roL L r) := by
  intro L
  induction L with
  | nil => intro r h; exact h
  | cons o L ih =>
    intro r h
    show RK T tl (roL L (roO r o))
    refine ih _ ?_
    unfold roO
    split
    · exact RK_put h (by decide)
    · exact h
theorem RK_if {r : Nat → Nat} {i v : Nat} {b : Prop} [Decidable b] {w : Nat} (h : b → v < 15 ∧ (v = 1 → kdT T tl i = 2) ∧ (v = 2 → kdT T tl i = 2)) (g : ¬ b → w < 15 ∧ (w = 1 → kdT T tl i = 2) ∧ (w = 2 → kdT T tl i = 2)) : (if b then v else w) < 15 ∧ ((if b then v else w) = 1 → kdT T tl i = 2) ∧ ((if b then v else w) = 2 → kdT T tl i = 2) := by
  by_cases e : b
  · rw [if_pos e]; exact h e
  · rw [if_neg e]; exact g e
theorem RK_n {i v : Nat} (hv : 3 ≤ v ∧ v < 15) : v < 15 ∧ (v = 1 → kdT T tl i = 2) ∧ (v = 2 → kdT T tl i = 2) := ⟨hv.2, fun q => by omega, fun q => by omega⟩
theorem RK_line {r : Nat → Nat} (h : RK T tl r) (hl : (pLnE T tl p).1 = true) : RK T tl (lnR T tl p r) := by
  obtain ⟨g1, g2, g3⟩ := line_ok hl
  unfold lnR
  by_cases ho : isO (kdT T tl p) = true
  · rw [if_pos ho]
    refine RK_L _ _ (fun i => ?_)
    unfold roOrd
    refine RK_if (r := r) (fun _ => RK_n (by decide)) (fun _ => RK_if (r := r) (fun _ => RK_if (r := r) (fun _ => RK_n (by decide)) (fun _ => RK_if (r := r) (fun _ => RK_n (by decide)) (fun _ => h i))) (fun _ => RK_if (r := r) (fun _ => RK_n (by decide)) (fun _ => RK_if (r := r) (fun _ => RK_n (by decide)) (fun _ => h i))))
  · rw [if_neg ho]
    have hno : ¬ (kdT T tl p = 214 ∨ kdT T tl p = 216 ∨ kdT T tl p = 217 ∨ kdT T tl p = 218) := fun q => ho (isO_t.mpr q)
    by_cases k0 : kdT T tl p = 200
    · rw [if_pos k0]
      have eP : pLn T tl p = pRul (kdT T tl) p := if_pos k0
      rw [eP] at g1
      unfold pRul at g1
      have k1 : kdT T tl (p + 1) = 2 := by
        by_cases q : kdT T tl (p + 1) = 2
        · exact q
        · rw [if_neg q] at g1
          exact absurd (show false = true from g1) (by decide)
      intro i
      unfold roRul
      exact RK_if (r := r) (fun e => ⟨by decide, fun _ => by rw [e]; exact k1, fun q => absurd q (by decide)⟩) (fun _ => RK_if (r := r) (fun _ => RK_n (by decide)) (fun _ => h i))
    rw [if_neg k0]
    by_cases k5 : kdT T tl p = 205
    · rw [if_pos k5]
      have eP : pLn T tl p = pPre (kdT T tl) antQ (p + 1) := by unfold pLn; rw [if_neg k0, if_pos k5]
      rw [eP] at g1
      have q1 := eQ_t.mp (pPre_t g1).1
      intro i
      unfold roAnt
      exact RK_if (r := r) (fun e => ⟨by decide, fun q => absurd q (by decide), fun _ => by rw [e]; exact q1⟩) (fun _ => RK_if (r := r) (fun _ => RK_n (by decide)) (fun _ => RK_if (r := r) (fun _ => RK_n (by decide)) (fun _ => RK_if (r := r) (fun _ => RK_n (by decide)) (fun _ => h i))))
    · rw [if_neg k5]
      intro i
      unfold roPnt
      exact RK_if (r := r) (fun _ => RK_n (by decide)) (fun _ => RK_if (r := r) (fun _ => RK_n (by decide)) (fun _ => h i))
theorem RK_all : ∀ (f p : Nat) (r : Nat → Nat), (pAll T tl f p).1 = true → RK T tl r → RK T tl (allR T tl f p r) := by
  intro f
  induction f with
  | zero => intro p r _ h; exact h
  | succ f ih =>
    intro p r h1 h
    by_cases h0 : kdT T tl p = 0
    · rw [allR, if_pos h0]; exact h
    · obtain ⟨a, b⟩ := pAll_su h1 h0
      rw [b] at h1
      rw [allR, if_neg h0]
      exact ih _ _ h1 (RK_line h a)
end Fresh
