/-! the reference's second pass: tokens of no role, and tests -/
section SecL
variable {G : gS} {ad : Nat → Nat} {M1 : mS} {T : Nat → Nat} {tl : Nat} {C : List Int32} {O : List Nat} {ro : Nat → Nat} {W : List (Nat × Nat)} {P : aP} {Y : aY} {c : Nat} {nm na : Nat → Nat} {p x : Nat} {σ' : aS} {Q : mS → Int32 → Prop}
theorem aInc_in : ∀ {L : List sO} {lo hi : Nat}, aInc lo hi L → ∀ o ∈ L, isA o.1 = true → lo ≤ o.2 ∧ o.2 < hi := by
  intro L
  induction L with
  | nil => intro lo hi _ o ho; exact absurd ho List.not_mem_nil
  | cons o L ih =>
    intro lo hi h o' ho' hA
    rw [aInc] at h
    rcases List.mem_cons.mp ho' with e | e
    · rw [e] at hA ⊢
      rw [if_pos hA] at h
      have := aInc_le h.2
      exact ⟨h.1, by omega⟩
    · split at h
      · have := ih h.2 o' e hA
        omega
      · exact ih h o' e hA
/-- tokens of no role -/
theorem st_gap (hE : EV G ad T tl ro) (hx : x ≤ nT T tl) {σ : aS} (h0 : sgE σ = 0) (hk : kE σ σ') (H1 : sgE σ' ≠ 0 → ∀ M', EF ad M1 M' (sgL σ') → Q M' (zn (sgE σ'))) : ∀ (n q f : Nat) (M : mS), CI ad T tl C O ro W M1 M p q P Y c nm na → p ≤ q → q + n ≤ x → (∀ j, q ≤ j → j < q + n → ro j = 0) → (∀ M', (∀ i, i < q → mI M' (ad 76) i = mI M (ad 76) i) → CI ad T tl C O ro W M1 M' p (q + n) P Y c nm na → p_cl (m_X12_read_57 G (ad 70) f M' (zn x)) Q) → p_cl (m_X12_read_57 G (ad 70) (f + n) M (zn x)) Q := by
  intro n
  induction n with
  | zero => intro q f M h hp hq hr H0; exact H0 M (fun _ _ => rfl) h
  | succ n ih =>
    intro q f M h hp hq hr H0
    show p_cl (m_X12_read_57 G (ad 70) (f + n + 1) M (zn x)) Q
    refine st_nil hE h hp (by omega) hx (hr q (Nat.le_refl _) (by omega)) (σ := σ) ⟨h0, fun q => absurd rfl q⟩ hk (fun _ M2 g2 h2 => ?_) H1
    refine ih (q + 1) f M2 h2 (by omega) (by omega) (fun j a b => hr j (by omega) (by omega)) (fun M3 g3 h3 => ?_)
    refine H0 M3 (fun i hi => (g3 i (by omega)).trans (g2 i (by omega))) ?_
    rw [show q + (n + 1) = q + 1 + n by omega]
    exact h3
/-- the tokens of a test -/
theorem st_test (hE : EV G ad T tl ro) (hx : x ≤ nT T tl) (h6 : yd_n Y ≤ 6) {e : Nat} (he : e ≤ x) (H1 : sgE σ' ≠ 0 → ∀ M', EF ad M1 M' (sgL σ') → Q M' (zn (sgE σ'))) : ∀ (L : List sO) (q f : Nat) (M : mS) (τ : aS), CI ad T tl C O ro W M1 M p q P Y c nm na → p ≤ q → aInc q e L → sgE τ = 0 → sgY τ = Y → sgA τ = na → kE (sOps T tl L τ) σ' → (∀ o ∈ L, isA o.1 = true → ro o.2 = 14 ∧ kdT T tl o.2 = 2) → (∀ j, q ≤ j → j < e → (∀ o ∈ L, isA o.1 = true → o.2 ≠ j) → ro j = 0) → (sgE (sOps T tl L τ) = 0 → ∀ M', (∀ i, i < q → mI M' (ad 76) i = mI M (ad 76) i) → (∀ o ∈ L, isA o.1 = true → mI M' (ad 76) o.2 = zn (ixD (antO T tl o.2 τ))) → CI ad T tl C O ro W M1 M' p e P Y c nm na → p_cl (m_X12_read_57 G (ad 70) f M' (zn x)) Q) → p_cl (m_X12_read_57 G (ad 70) (f + (e - q)) M (zn x)) Q := by
  intro L
  induction L with
  | nil =>
    intro q f M τ h hp hi h0 hY hna hk hr hr0 H0
    have hi : q ≤ e := hi
    refine st_gap hE hx h0 hk H1 (e - q) q f M h hp (by omega) (fun j a b => hr0 j a (by omega) (fun o ho => absurd ho List.not_mem_nil)) (fun M2 g2 h2 => ?_)
    rw [show q + (e - q) = e by omega] at h2
    exact H0 h0 M2 g2 (fun o ho => absurd ho List.not_mem_nil) h2
  | cons o L ih =>
    intro q f M τ h hp hi h0 hY hna hk hr hr0 H0
    rw [aInc] at hi
    obtain ⟨f1, f2, f3, f4⟩ := sOp_f (T := T) (tl := tl) o τ
    have ha : ∀ t, antO T tl t (sOp T tl o τ) = antO T tl t τ := fun t => antO_c f1 f3
    by_cases hA : isA o.1 = true
    · rw [if_pos hA] at hi
      have hin := aInc_le hi.2
      obtain ⟨r1, r2⟩ := hr o List.mem_cons_self hA
      have es : eAt (sOp T tl o τ) (if antO T tl o.2 τ = none then 3 else 0) (tkP T tl o.2) := by
        have := sLk_e h0 (o := antO T tl o.2 τ) (pl := tkP T tl o.2)
        unfold sOp
        rw [if_pos hA]
        exact this
      have hk2 : kE (sOp T tl o τ) σ' := kE_tr (kE_sOps L _) hk
      have hkt : kE τ σ' := kE_tr (kE_sOp (T := T) (tl := tl) (o := o)) hk2
      rw [show f + (e - q) = f + (e - (o.2 + 1)) + 1 + (o.2 - q) by omega]
      refine st_gap hE hx h0 hkt H1 (o.2 - q) q _ M h hp (by omega) (fun j a b => hr0 j a (by omega) (fun o' ho' hA' => ?_)) (fun M2 g2 h2 => ?_)
      · rcases List.mem_cons.mp ho' with e1 | e1
        · rw [e1]; omega
        · have := aInc_in hi.2 o' e1 hA'
          omega
      rw [show q + (o.2 - q) = o.2 by omega] at h2
      have es' : eAt (sOp T tl o τ) (if ixN na (keyT T tl o.2) (yd_n Y) 0 = none then 3 else 0) (tkP T tl o.2) := by
        rw [← hY, ← hna]; exact es
      refine st_look hE h2 (by omega) (by omega) hx r1 r2 h6 es' hk2 (fun e0 M3 m3 g3 h3 => ?_) H1
      have m3 : mI M3 (ad 76) o.2 = zn (ixD (antO T tl o.2 τ)) := by
        rw [m3]
        have : antO T tl o.2 τ = ixN na (keyT T tl o.2) (yd_n Y) 0 := by rw [← hY, ← hna]; rfl
        rw [this]
        by_cases g : ixN na (keyT T tl o.2) (yd_n Y) 0 = none
        · rw [if_pos g] at e0; exact absurd e0 (by decide)
        · obtain ⟨i, hi⟩ := Option.ne_none_iff_exists'.mp g
          rw [hi]
          rfl
      refine ih (o.2 + 1) f M3 (sOp T tl o τ) h3 (by omega) hi.2 (es'.1.trans e0) (f1.trans hY) (f3.trans hna) hk (fun o' ho' hA' => hr o' (List.mem_cons_of_mem _ ho') hA') (fun j a b hj => hr0 j (by omega) b (fun o' ho' hA' => ?_)) (fun e4 M4 g4 m4 h4 => ?_)
      · rcases List.mem_cons.mp ho' with e1 | e1
        · rw [e1]; omega
        · exact hj o' e1 hA'
      · refine H0 e4 M4 (fun i hi => (g4 i (by omega)).trans ((g3 i (by omega)).trans (g2 i hi))) (fun o' ho' hA' => ?_) h4
        rcases List.mem_cons.mp ho' with e1 | e1
        · rw [e1, g4 o.2 (by omega)]; exact m3
        · rw [m4 o' e1 hA', ha]
    · rw [if_neg hA] at hi
      have es : sgE (sOp T tl o τ) = 0 := by
        unfold sOp
        rw [if_neg hA]
        exact h0
      refine ih q f M (sOp T tl o τ) h hp hi es (f1.trans hY) (f3.trans hna) hk (fun o' ho' hA' => hr o' (List.mem_cons_of_mem _ ho') hA') (fun j a b hj => hr0 j a b (fun o' ho' hA' => ?_)) (fun e4 M4 g4 m4 h4 => ?_)
      · rcases List.mem_cons.mp ho' with e1 | e1
        · rw [e1] at hA'; exact absurd hA' hA
        · exact hj o' e1 hA'
      · refine H0 e4 M4 g4 (fun o' ho' hA' => ?_) h4
        rcases List.mem_cons.mp ho' with e1 | e1
        · rw [e1] at hA'; exact absurd hA' hA
        · rw [m4 o' e1 hA', ha]
end SecL
