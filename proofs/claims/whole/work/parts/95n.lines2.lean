/-! the reference's second pass: all lines, one behind another -/
section LinesQ
variable {G : gS} {ad : Nat → Nat} {T : Nat → Nat} {tl : Nat} {C : List Int32} {O : List Nat} {ro : Nat → Nat} {W : List (Nat × Nat)} {p : Nat}
theorem line_lt (hl : (pLnE T tl p).1 = true) : p < nT T tl ∧ p < (pLnE T tl p).2 ∧ (pLnE T tl p).2 ≤ nT T tl := by
  obtain ⟨g1, g2, g3⟩ := line_ok hl
  have h9 := kdT_lt (T := T) (tl := tl) (q := (pLn T tl p).2) (by omega)
  have hk : 2 ≤ kdT T tl p := by
    by_cases q : 2 ≤ kdT T tl p
    · exact q
    · exfalso
      unfold pLn at g1
      rw [if_neg (by omega), if_neg (by omega), if_neg (by omega), if_neg (by omega), if_neg (by omega), if_neg (by omega)] at g1
      exact absurd (show false = true from g1) (by decide)
  have hp := kdT_lt hk
  refine ⟨hp, ?_, by omega⟩
  have : p ≤ (pLn T tl p).2 := by
    by_cases ho : isO (kdT T tl p) = true
    · rw [pLn_ord ho] at g1 ⊢
      have := (ord_ok hp g1).1
      omega
    · have : ¬ (kdT T tl p = 214 ∨ kdT T tl p = 216 ∨ kdT T tl p = 217 ∨ kdT T tl p = 218) := fun q => ho (isO_t.mpr q)
      unfold pLn
      split
      · unfold pRul
        split <;> (dsimp only; omega)
      split
      · have := pPre_ge (kd := kdT T tl) antQ (p + 1)
        omega
      split
      · have := pPre_ge (kd := kdT T tl) paintQ (p + 1)
        omega
      · rw [if_neg (by omega), if_neg (by omega), if_neg (by omega)]
        exact Nat.le_refl _
  omega
theorem washQ_2 : ∀ q ∈ washQ, ∀ k, q k = true → 2 ≤ k := by
  intro q hq k hk
  rcases List.mem_cons.mp hq with rfl | hq
  · have := eQ_t.mp hk; omega
  rcases List.mem_cons.mp hq with rfl | hq
  · have := eQ_t.mp hk; omega
  rcases List.mem_cons.mp hq with rfl | hq
  · have := eQ_t.mp hk; omega
  rcases List.mem_cons.mp hq with rfl | hq
  · have := eQ_t.mp hk; omega
  · exact absurd hq List.not_mem_nil
theorem faceQ_2 : ∀ q ∈ faceQ, ∀ k, q k = true → 2 ≤ k := by
  intro q hq k hk
  rcases List.mem_cons.mp hq with rfl | hq
  · have := eQ_t.mp hk; omega
  rcases List.mem_cons.mp hq with rfl | hq
  · have := qSide_t.mp hk; omega
  rcases List.mem_cons.mp hq with rfl | hq
  · have := eQ_t.mp hk; omega
  · exact absurd hq List.not_mem_nil
theorem haltQ_2 : ∀ q ∈ haltQ, ∀ k, q k = true → 2 ≤ k := by
  intro q hq k hk
  rcases List.mem_cons.mp hq with rfl | hq
  · have := eQ_t.mp hk; omega
  rcases List.mem_cons.mp hq with rfl | hq
  · have := eQ_t.mp hk; omega
  · exact absurd hq List.not_mem_nil
/-- a line gives roles to its own tokens alone -/
theorem lnR_out {r : Nat → Nat} (hl : (pLnE T tl p).1 = true) {j : Nat} (hj : j < p ∨ (pLnE T tl p).2 ≤ j) : lnR T tl p r j = r j := by
  obtain ⟨g1, g2, g3⟩ := line_ok hl
  obtain ⟨hp, _, _⟩ := line_lt hl
  rw [g3] at hj
  unfold lnR
  by_cases ho : isO (kdT T tl p) = true
  · rw [if_pos ho]
    have k := isO_t.mp ho
    have e1 := pLn_ord ho
    rw [e1] at g1 hj
    obtain ⟨o1, o2, o3⟩ := ord_ok hp g1
    rw [roL_out _ _ _ (fun o ho hA => by have := aInc_in o3 o ho hA; omega)]
    unfold roOrd
    unfold pOrdL at g1 hj
    by_cases k1 : kdT T tl p = 214
    · rw [if_pos k1] at g1 hj
      have t1 := aInc_le (tail_ok hp washQ_2 g1 rfl).1
      have t1 : p + 5 ≤ (pThen T tl (pPre (kdT T tl) washQ (p + 1))).2 := t1
      rw [if_neg (by omega), if_pos k1, if_neg (by omega), if_neg (by omega)]
    rw [if_neg k1] at g1 hj
    by_cases k2 : kdT T tl p = 216
    · rw [if_pos k2] at g1 hj
      have t1 := aInc_le (tail_ok hp faceQ_2 g1 rfl).1
      have t1 : p + 4 ≤ (pThen T tl (pPre (kdT T tl) faceQ (p + 1))).2 := t1
      rw [if_neg (by omega), if_neg k1, if_neg (by omega), if_neg (by omega)]
    · rw [if_neg k2] at g1 hj
      have t1 := aInc_le (tail_ok hp haltQ_2 g1 rfl).1
      have t1 : p + 3 ≤ (pThen T tl (pPre (kdT T tl) haltQ (p + 1))).2 := t1
      rw [if_neg (by omega), if_neg k1, if_neg (by omega), if_neg (by omega)]
  · rw [if_neg ho]
    have hno : ¬ (kdT T tl p = 214 ∨ kdT T tl p = 216 ∨ kdT T tl p = 217 ∨ kdT T tl p = 218) := fun q => ho (isO_t.mpr q)
    by_cases k0 : kdT T tl p = 200
    · rw [if_pos k0]
      have eP : pLn T tl p = pRul (kdT T tl) p := if_pos k0
      rw [eP] at g1 hj
      unfold pRul at g1 hj
      by_cases k1 : kdT T tl (p + 1) = 2
      · rw [if_pos k1] at hj
        have hj : j < p ∨ p + 2 + nTu (kdT T tl) 400 (p + 2) + 1 ≤ j := hj
        unfold roRul
        rw [if_neg (by omega), if_neg (by omega)]
      · rw [if_neg k1] at g1
        exact absurd (show false = true from g1) (by decide)
    rw [if_neg k0]
    by_cases k5 : kdT T tl p = 205
    · rw [if_pos k5]
      have eP : pLn T tl p = pPre (kdT T tl) antQ (p + 1) := by unfold pLn; rw [if_neg k0, if_pos k5]
      rw [eP] at g1 hj
      rw [pPre_end _ _ g1] at hj
      have hj : j < p ∨ p + 1 + 8 + 1 ≤ j := hj
      unfold roAnt
      rw [if_neg (by omega), if_neg (by omega), if_neg (by omega), if_neg (by omega)]
    · rw [if_neg k5]
      have k3 : kdT T tl p = 213 := by
        by_cases q : kdT T tl p = 213
        · exact q
        · exfalso
          unfold pLn at g1
          rw [if_neg k0, if_neg k5, if_neg q, if_neg (by omega), if_neg (by omega), if_neg (by omega)] at g1
          exact absurd (show false = true from g1) (by decide)
      have eP : pLn T tl p = pPre (kdT T tl) paintQ (p + 1) := by unfold pLn; rw [if_neg k0, if_neg k5, if_pos k3]
      rw [eP] at g1 hj
      rw [pPre_end _ _ g1] at hj
      have hj : j < p ∨ p + 1 + 3 + 1 ≤ j := hj
      unfold roPnt
      rw [if_neg (by omega), if_neg (by omega)]
theorem pAll_su {f : Nat} (h : (pAll T tl (f + 1) p).1 = true) (h0 : ¬ kdT T tl p = 0) : (pLnE T tl p).1 = true ∧ pAll T tl (f + 1) p = pAll T tl f (pLnE T tl p).2 := by
  rw [pAll, if_neg h0] at h ⊢
  by_cases g : (pLnE T tl p).1 = true
  · rw [if_pos g]; exact ⟨g, rfl⟩
  · rw [if_neg g] at h
    exact absurd h g
theorem pAll_ge : ∀ (f p : Nat), (pAll T tl f p).1 = true → p ≤ (pAll T tl f p).2 := by
  intro f
  induction f with
  | zero => intro p h; exact Nat.le_refl _
  | succ f ih =>
    intro p h
    by_cases h0 : kdT T tl p = 0
    · rw [pAll, if_pos h0]
      exact Nat.le_refl _
    · obtain ⟨a, b⟩ := pAll_su h h0
      rw [b] at h ⊢
      have := ih _ h
      have := line_lt a
      omega
theorem allR_lo : ∀ (f p : Nat) (r : Nat → Nat), (pAll T tl f p).1 = true → ∀ j, j < p → allR T tl f p r j = r j := by
  intro f
  induction f with
  | zero => intro p r _ j _; rfl
  | succ f ih =>
    intro p r h j hj
    by_cases h0 : kdT T tl p = 0
    · rw [allR, if_pos h0]
    · obtain ⟨a, b⟩ := pAll_su h h0
      have hlt := line_lt a
      rw [b] at h
      rw [allR, if_neg h0, ih _ _ h j (by omega), lnR_out a (Or.inl hj)]
theorem CL_next {M1 M : mS} {q : Nat} {σ : aS} (h : CL ad T tl C O ro W M1 M p q σ) : CL ad T tl C O ro W M M q q σ := ⟨h.1, h.2.1, ⟨SFr_rf, fun _ _ => rfl⟩, h.2.2.2⟩
theorem rd_lines (hE : EV G ad T tl ro) {x fu : Nat} (hx : x ≤ nT T tl) {Q : mS → Int32 → Prop} : ∀ (f p : Nat) (r : Nat → Nat) (σ : aS) (Ls : List (List sO)) (M : mS), (pAll T tl f p).1 = true → (pAll T tl f p).2 = x → (∀ j, p ≤ j → r j = 0) → (∀ j, p ≤ j → j < x → ro j = allR T tl f p r j) → CL ad T tl C O ro W M M p p σ → sgE σ = 0 → BB σ → VI σ → TI ad M T tl p σ Ls → (sgE (sAll T tl f p σ) = 0 → ∀ M', SFr ad M M' → CL ad T tl C O ro W M' M' x x (sAll T tl f p σ) → BB (sAll T tl f p σ) → VI (sAll T tl f p σ) → TI ad M' T tl x (sAll T tl f p σ) (Ls ++ orL T tl f p) → p_cl (m_X12_read_57 G (ad 70) fu M' (zn x)) Q) → (sgE (sAll T tl f p σ) ≠ 0 → ∀ M', EF ad M M' (sgL (sAll T tl f p σ)) → Q M' (zn (sgE (sAll T tl f p σ)))) → p_cl (m_X12_read_57 G (ad 70) (fu + (x - p)) M (zn x)) Q := by
  intro f
  induction f with
  | zero =>
    intro p r σ Ls M h1 h2 hr hro h h0 hv hw ht H0 H1
    have h2 : p = x := h2
    have := H0 h0 M SFr_rf (h2 ▸ h) hv hw (by
      show TI ad M T tl x σ (Ls ++ [])
      rw [List.append_nil, ← h2]
      exact ht)
    rw [show fu + (x - p) = fu by omega]
    exact this
  | succ f ih =>
    intro p r σ Ls M h1 h2 hr hro h h0 hv hw ht H0 H1
    by_cases k0 : kdT T tl p = 0
    · rw [pAll, if_pos k0] at h2
      have h2 : p = x := h2
      rw [sAll, if_pos k0, orL, if_pos k0, List.append_nil] at H0
      have := H0 h0 M SFr_rf (h2 ▸ h) hv hw (h2 ▸ ht)
      rw [show fu + (x - p) = fu by omega]
      exact this
    · obtain ⟨a, b⟩ := pAll_su h1 k0
      rw [b] at h1 h2
      rw [sAll, if_neg k0] at H0 H1
      rw [orL, if_neg k0] at H0
      obtain ⟨l1, l2, l3⟩ := line_lt a
      have hge := pAll_ge _ _ h1
      have hR : ∀ j, p ≤ j → j < x → ro j = allR T tl f (pLnE T tl p).2 (lnR T tl p r) j := fun j q1 q2 => by
        rw [hro j q1 q2, allR, if_neg k0]
      rw [show fu + (x - p) = fu + (x - (pLnE T tl p).2) + ((pLnE T tl p).2 - p) by omega]
      refine rd_line hE h h0 hv hr a rfl (fun j q1 q2 => ?_) (by omega) hx (by omega) (fun e0 M' hm hc => ?_) (fun e0 M' hf => ?_)
      · rw [hR j q1 (by omega), allR_lo _ _ _ h1 j q2]
      · refine ih _ (lnR T tl p r) _ (Ls ++ if isO (kdT T tl p) then [lnL T tl p] else []) M' h1 h2 (fun j q1 => ?_) (fun j q1 q2 => hR j (by omega) q2) (CL_next hc) e0 (BB_sLn hv) (VI_line hw hv h0 a l1 ht.2.2.2 e0) (TI_step ht a rfl l1 (by omega) h0 hv e0 hc.2.2.1.2 hm) (fun e4 M4 f4 c4 v4 w4 t4 => ?_) (fun e4 M4 f4 => ?_)
        · rw [lnR_out a (Or.inr q1)]
          exact hr j (by omega)
        · rw [List.append_assoc] at t4
          exact H0 e4 M4 (SFr_tr hc.2.2.1.1 f4) c4 v4 w4 t4
        · exact H1 e4 M4 (EF_tr hc.2.2.1.1 f4)
      · obtain ⟨k1, k2⟩ := kE_sAll (T := T) (tl := tl) f (pLnE T tl p).2 (sLn T tl p σ) e0
        have := H1 (by rw [k1]; exact e0) M' (by rw [k2]; exact hf)
        rw [k1] at this
        exact this
end LinesQ
