/-! the reference's parser: a whole list -/
/-- code, opens, roles, orders' tests -/
abbrev aM : Type := List Int32 × List Nat × (Nat → Nat) × List (Nat × Nat)
def isO (k : Nat) : Bool := k == 214 || k == 216 || k == 217 || k == 218
theorem isO_t {k : Nat} : isO k = true ↔ (k = 214 ∨ k = 216 ∨ k = 217 ∨ k = 218) := by
  unfold isO
  simp only [Bool.or_eq_true, beq_iff_eq]
  omega
def lnS (T : Nat → Nat) (tl p : Nat) (s : aM) : aM :=
  if isO (kdT T tl p) then (s.1 ++ enT T tl (lnL T tl p), s.2.1 ++ opT T tl s.1.length (lnL T tl p), roL (lnL T tl p) (roOrd (kdT T tl) p s.2.2.1), s.2.2.2 ++ [(s.1.length, (s.1 ++ enT T tl (lnL T tl p)).length)])
  else (s.1, s.2.1, if kdT T tl p = 200 then roRul p (nTu (kdT T tl) 400 (p + 2)) s.2.2.1 else if kdT T tl p = 205 then roAnt p s.2.2.1 else roPnt p s.2.2.1, s.2.2.2)
def allS (T : Nat → Nat) (tl : Nat) : Nat → Nat → aM → aM
  | 0, _, s => s
  | f + 1, p, s => if kdT T tl p = 0 then s else allS T tl f (pLnE T tl p).2 (lnS T tl p s)
def MLs (ad : Nat → Nat) (M : mS) (T : Nat → Nat) (tl p : Nat) (s : aM) : Prop := ML ad M T tl p s.1 s.2.1 s.2.2.1 s.2.2.2
def sB3 (p : Nat) (s : aM) : Prop := s.1.length ≤ 2 * p ∧ s.2.1.length ≤ p ∧ s.2.2.2.length ≤ p
theorem pPre_end {kd : Nat → Nat} : ∀ (l : List (Nat → Bool)) (p : Nat), (pPre kd l p).1 = true → (pPre kd l p).2 = p + l.length := by
  intro l
  induction l with
  | nil => intro p _; rfl
  | cons q l ih =>
    intro p h
    rw [pPre] at h ⊢
    split at h
    · next g =>
      rw [if_pos g, ih (p + 1) h]
      show p + 1 + l.length = p + (l.length + 1)
      omega
    · exact absurd (show false = true from h) (by decide)
theorem pThen_end {T : Nat → Nat} {tl : Nat} {l : List (Nat → Bool)} {p : Nat} (h : (pThen T tl (pPre (kdT T tl) l p)).1 = true) : (pThen T tl (pPre (kdT T tl) l p)).2 = (pTest T tl (p + l.length)).2.1 ∧ (pTest T tl (p + l.length)).1 = true ∧ (pPre (kdT T tl) l p).1 = true := by
  unfold pThen at h ⊢
  by_cases g : (pPre (kdT T tl) l p).1 = true
  · rw [if_pos g] at h ⊢
    rw [pPre_end l p g] at h ⊢
    exact ⟨rfl, h, g⟩
  · rw [if_neg g] at h
    exact absurd h g
theorem pPre_in {T : Nat → Nat} {tl : Nat} : ∀ (l : List (Nat → Bool)) (p : Nat), (∀ q ∈ l, ∀ k, q k = true → 2 ≤ k) → p ≤ nT T tl → (pPre (kdT T tl) l p).2 ≤ nT T tl := by
  intro l
  induction l with
  | nil => intro p _ h; exact h
  | cons q l ih =>
    intro p hq h
    rw [pPre]
    split
    · next g => exact ih (p + 1) (fun q' hq' => hq q' (List.mem_cons_of_mem _ hq')) (kdT_lt (hq q (List.mem_cons_self) _ g))
    · exact h
/-- an order's operations are no more than its tokens -/
theorem ord_ok {T : Nat → Nat} {tl p : Nat} (hp : p < nT T tl) (h : (pOrdL T tl p).1 = true) : p + 1 ≤ (pOrdL T tl p).2 ∧ (lnL T tl p).length ≤ (pOrdL T tl p).2 - (p + 1) ∧ aInc (p + 1) (pOrdL T tl p).2 (lnL T tl p) := by
  have go : ∀ (l : List (Nat → Bool)), (∀ q ∈ l, ∀ k, q k = true → 2 ≤ k) → (pThen T tl (pPre (kdT T tl) l (p + 1))).1 = true → p + 1 ≤ (pThen T tl (pPre (kdT T tl) l (p + 1))).2 ∧ (pTest T tl (p + 1 + l.length)).2.2.length ≤ (pThen T tl (pPre (kdT T tl) l (p + 1))).2 - (p + 1) ∧ aInc (p + 1) (pThen T tl (pPre (kdT T tl) l (p + 1))).2 (pTest T tl (p + 1 + l.length)).2.2 := fun l hl h => by
    obtain ⟨e1, e2, e3⟩ := pThen_end h
    have h4 := pPre_in l (p + 1) hl (show p + 1 ≤ nT T tl from hp)
    rw [pPre_end l _ e3] at h4
    have hr := pz_rok (T := T) (tl := tl) (f := 100) (t := 3) (d := 0) h4
    have h5 := hr.2.2 e2
    have h6 := hr.1
    rw [e1]
    refine ⟨by show p + 1 ≤ (pz (kdT T tl) 100 3 0 (p + 1 + l.length)).2.1; omega, ?_, ?_⟩
    · show (pz (kdT T tl) 100 3 0 (p + 1 + l.length)).2.2.length ≤ (pz (kdT T tl) 100 3 0 (p + 1 + l.length)).2.1 - (p + 1)
      omega
    · exact aInc_lo h5.2.2 (by omega)
  have eq2 : ∀ n, 2 ≤ n → ∀ k, eQ n k = true → 2 ≤ k := fun n hn k hk => by have := eQ_t.mp hk; omega
  have sq2 : ∀ k, qSide k = true → 2 ≤ k := fun k hk => by have := qSide_t.mp hk; omega
  unfold pOrdL lnL at *
  by_cases k1 : kdT T tl p = 214
  · rw [if_pos k1] at h ⊢
    rw [if_pos k1]
    refine go washQ (fun q hq => ?_) h
    unfold washQ at hq
    simp only [List.mem_cons, List.mem_nil_iff, or_false] at hq
    rcases hq with rfl | rfl | rfl | rfl <;> exact eq2 _ (by decide)
  rw [if_neg k1] at h ⊢
  rw [if_neg k1]
  by_cases k2 : kdT T tl p = 216
  · rw [if_pos k2] at h ⊢
    rw [if_pos k2]
    refine go faceQ (fun q hq => ?_) h
    unfold faceQ at hq
    simp only [List.mem_cons, List.mem_nil_iff, or_false] at hq
    rcases hq with rfl | rfl | rfl
    · exact eq2 _ (by decide)
    · exact sq2
    · exact eq2 _ (by decide)
  · rw [if_neg k2] at h ⊢
    rw [if_neg k2]
    refine go haltQ (fun q hq => ?_) h
    unfold haltQ at hq
    simp only [List.mem_cons, List.mem_nil_iff, or_false] at hq
    rcases hq with rfl | rfl <;> exact eq2 _ (by decide)
theorem pLn_ord {T : Nat → Nat} {tl p : Nat} (h : isO (kdT T tl p) = true) : pLn T tl p = pOrdL T tl p := by
  have k := isO_t.mp h
  unfold pLn pOrdL
  rw [if_neg (by omega), if_neg (by omega), if_neg (by omega)]
  by_cases k1 : kdT T tl p = 214
  · rw [if_pos k1, if_pos k1]
  rw [if_neg k1, if_neg k1]
  by_cases k2 : kdT T tl p = 216
  · rw [if_pos k2, if_pos k2]
  · rw [if_neg k2, if_neg k2, if_pos (by omega)]
section PlanM
variable {G : gS} {ad : Nat → Nat} {T : Nat → Nat} {tl : Nat}
def PostA (ad : Nat → Nat) (T : Nat → Nat) (tl : Nat) (M : mS) (x : Option (mS × Int32)) (r : Bool × Nat) (s : aM) : Prop := p_cl x (fun M' v => LFr ad M M' ∧ (r.1 = true → v = 1 ∧ kdT T tl r.2 = 0 ∧ MLs ad M' T tl r.2 s) ∧ (r.1 = false → v = 0 ∧ ∃ d' C' O' ro', MR ad M' T tl r.2 d' C' O' ro'))
theorem w_plan (hA : Inj ad) (hS : Sh G ad) (hq : gP G (ad 70) 12 = some (ad 126)) (hL : LSh G ad 126) (htl : tl ≤ 2000) (hT : ∀ k, k < tl → T k < 256) : ∀ (n f : Nat) (M0 M : mS) (s : aM) (p : Nat), nT T tl < 2 * n + p → n < f → sB3 p s → LFr ad M0 M → MLs ad M T tl p s → PostA ad T tl M0 (m_X12_isPlan_0 G (ad 70) f M) (pAll T tl n p) (allS T tl n p s) := by
  intro n
  induction n with
  | zero =>
    intro f M0 M s p hn hf hb hF h
    have := h.1.2.1.2.1
    omega
  | succ n ih =>
    intro f M0 M s p hn hf hb hF h
    obtain ⟨f, rfl⟩ : ∃ g, f = g + 1 := ⟨f - 1, by omega⟩
    obtain ⟨b1, b2, b3⟩ := hb
    rw [m_X12_isPlan_0, pAll, allS]
    refine w_isC hS h.1 (t := 0) (by unfold vK; decide) (by decide) (fun k0 => ?_) (fun k0 => ?_)
    · rw [if_pos k0, if_pos k0]
      exact c_f (by decide) (c_ck (Or.inr rfl) (c_some ⟨hF, fun _ => ⟨rfl, k0, h⟩, fun g => absurd (show true = false from g) (by decide)⟩))
    rw [if_neg k0, if_neg k0]
    refine c_t rfl ?_
    -- the line is read: its end
    have aft : ∀ (x : Option (mS × Int32)), p_cl x (fun M' v => LFr ad M0 M' ∧ ((pLn T tl p).1 = true → v = 1 ∧ MLs ad M' T tl (pLn T tl p).2 (lnS T tl p s) ∧ p + 1 ≤ (pLn T tl p).2 ∧ sB3 (pLn T tl p).2 (lnS T tl p s)) ∧ ((pLn T tl p).1 = false → v = 0 ∧ ∃ d' C' O' ro', MR ad M' T tl (pLn T tl p).2 d' C' O' ro')) → PostA ad T tl M0 (o_cl x (fun M18 r19 => m_X12_isPlan_60 G (ad 70) (fun M => m_X12_isPlan_0 G (ad 70) f M) M18 r19)) (if (pLnE T tl p).1 = true then pAll T tl n (pLnE T tl p).2 else pLnE T tl p) (allS T tl n (pLnE T tl p).2 (lnS T tl p s)) := fun x hx => by
      refine c_clm hx ?_
      rintro M1 v ⟨F1, t1, n1⟩
      unfold m_X12_isPlan_60 m_X12_isPlan_74
      cases e : (pLn T tl p).1
      · obtain ⟨rfl, d', C', O', ro', h1⟩ := n1 e
        have e1 : pLnE T tl p = (false, (pLn T tl p).2) := by unfold pLnE; rw [e]; rfl
        rw [e1]
        exact c_t rfl (c_ck (Or.inl rfl) (c_some ⟨F1, fun g => absurd (show false = true from g) (by decide), fun _ => ⟨rfl, _, _, _, _, h1⟩⟩))
      · obtain ⟨rfl, h1, g1, c1, c2, c3⟩ := t1 e
        refine c_f (by decide) (w_esC hA hS h1.1 (t := 59) (vK_s rfl) (by decide) (by decide) (fun k2 M2 h2 f2 => ?_) (fun k2 M2 h2 f2 => ?_))
        · have e1 : pLnE T tl p = (true, (pLn T tl p).2 + 1) := by unfold pLnE; rw [e, if_pos rfl, if_pos k2]
          rw [e1, if_pos rfl]
          exact c_f (by decide) (ih f M0 M2 _ _ (by show nT T tl < 2 * n + ((pLn T tl p).2 + 1); omega) (by omega) ⟨by show _ ≤ 2 * ((pLn T tl p).2 + 1); omega, by show _ ≤ (pLn T tl p).2 + 1; omega, by show _ ≤ (pLn T tl p).2 + 1; omega⟩ (LFr_tr F1 (LFr_N f2)) (ML_N hA h1 f2 h2))
        · have e1 : pLnE T tl p = (false, (pLn T tl p).2) := by unfold pLnE; rw [e, if_pos rfl, if_neg k2]
          rw [e1]
          exact c_t rfl (c_ck (Or.inl rfl) (c_some ⟨LFr_tr F1 (LFr_N f2), fun g => absurd (show false = true from g) (by decide), fun _ => ⟨rfl, _, _, _, _, h2⟩⟩))
    -- a line that is no order
    have pln : ∀ (x : Option (mS × Int32)) (r : Bool × Nat) (r1 : Nat → Nat), isO (kdT T tl p) = false → pLn T tl p = r → p + 1 ≤ r.2 → lnS T tl p s = (s.1, s.2.1, r1, s.2.2.2) → PostN ad T tl s.1 s.2.1 r1 M x r → PostA ad T tl M0 (o_cl x (fun M18 r19 => m_X12_isPlan_60 G (ad 70) (fun M => m_X12_isPlan_0 G (ad 70) f M) M18 r19)) (if (pLnE T tl p).1 = true then pAll T tl n (pLnE T tl p).2 else pLnE T tl p) (allS T tl n (pLnE T tl p).2 (lnS T tl p s)) := fun x r r1 _ e1 e2 e3 hx => by
      refine aft x (c_mono hx ?_)
      rintro M' v ⟨fa, fb, fc⟩
      rw [e1, e3]
      exact ⟨LFr_tr hF (LFr_N fa), fun g => ⟨(fb g).1, ML_N hA h fa (fb g).2, e2, by show s.1.length ≤ _; omega, by show s.2.1.length ≤ _; omega, by show s.2.2.2.length ≤ _; omega⟩, fc⟩
    have lt : 2 ≤ kdT T tl p → p < nT T tl := fun q => kdT_lt q
    refine w_isC hS h.1 (t := 200) (vK_w (by decide)) (by decide) (fun k1 => ?_) (fun k1 => ?_)
    · have eo : isO (kdT T tl p) = false := by rw [k1]; rfl
      refine c_f (by decide) (pln _ (pRul (kdT T tl) p) _ eo (by unfold pLn; rw [if_pos k1]) (by unfold pRul; split <;> (dsimp only; omega)) (by unfold lnS; rw [if_neg (by rw [eo]; decide), if_pos k1]) (w_rule hA hS h.1 (lt (by omega))))
    refine c_t rfl (w_isC hS h.1 (t := 205) (vK_w (by decide)) (by decide) (fun k2 => ?_) (fun k2 => ?_))
    · have eo : isO (kdT T tl p) = false := by rw [k2]; rfl
      refine c_f (by decide) (pln _ _ _ eo (by unfold pLn; rw [if_neg k1, if_pos k2]) (pPre_ge antQ (p + 1)) (by unfold lnS; rw [if_neg (by rw [eo]; decide), if_neg k1, if_pos k2]) (w_ant hA hS h.1 (lt (by omega))))
    refine c_t rfl (w_isC hS h.1 (t := 213) (vK_w (by decide)) (by decide) (fun k3 => ?_) (fun k3 => ?_))
    · have eo : isO (kdT T tl p) = false := by rw [k3]; rfl
      refine c_f (by decide) (pln _ _ _ eo (by unfold pLn; rw [if_neg k1, if_neg k2, if_pos k3]) (pPre_ge paintQ (p + 1)) (by unfold lnS; rw [if_neg (by rw [eo]; decide), if_neg k1, if_neg k2]) (w_paint hA hS h.1 (lt (by omega))))
    refine c_t rfl (aft _ ?_)
    -- an order
    have ord : (kdT T tl p = 214 ∨ kdT T tl p = 216 ∨ kdT T tl p = 217 ∨ kdT T tl p = 218) → p_cl (m_X12_isOrderLine_42 G (ad 70) M (if kdT T tl p = 214 then 1 else 0) (if kdT T tl p = 216 then 1 else 0)) (fun M' v => LFr ad M0 M' ∧ ((pLn T tl p).1 = true → v = 1 ∧ MLs ad M' T tl (pLn T tl p).2 (lnS T tl p s) ∧ p + 1 ≤ (pLn T tl p).2 ∧ sB3 (pLn T tl p).2 (lnS T tl p s)) ∧ ((pLn T tl p).1 = false → v = 0 ∧ ∃ d' C' O' ro', MR ad M' T tl (pLn T tl p).2 d' C' O' ro')) := fun hk => by
      have eo : isO (kdT T tl p) = true := isO_t.mpr hk
      refine c_mono (w_order hA hS hq hL htl hT h b1 b2 b3 hk) ?_
      rintro M' v ⟨fa, fb, fc⟩
      rw [pLn_ord eo]
      refine ⟨LFr_tr hF fa, fun g => ?_, fc⟩
      obtain ⟨o1, o2, o3⟩ := ord_ok (lt (by omega)) g
      have e3 : lnS T tl p s = (s.1 ++ enT T tl (lnL T tl p), s.2.1 ++ opT T tl s.1.length (lnL T tl p), roL (lnL T tl p) (roOrd (kdT T tl) p s.2.2.1), s.2.2.2 ++ [(s.1.length, (s.1 ++ enT T tl (lnL T tl p)).length)]) := by unfold lnS; rw [if_pos eo]
      rw [e3]
      have a1 := enT_len (T := T) (tl := tl) (lnL T tl p)
      have a2 := opT_len (T := T) (tl := tl) (lnL T tl p) s.1.length
      refine ⟨(fb g).1, (fb g).2, o1, ?_, ?_, ?_⟩
      · show (s.1 ++ enT T tl (lnL T tl p)).length ≤ _
        rw [List.length_append]; omega
      · show (s.2.1 ++ opT T tl s.1.length (lnL T tl p)).length ≤ _
        rw [List.length_append]; omega
      · show (s.2.2.2 ++ [(s.1.length, (s.1 ++ enT T tl (lnL T tl p)).length)]).length ≤ _
        rw [List.length_append]
        show s.2.2.2.length + 1 ≤ _
        omega
    have bad : ¬ (kdT T tl p = 214 ∨ kdT T tl p = 216 ∨ kdT T tl p = 217 ∨ kdT T tl p = 218) → p_cl (o_ck ((0 : Int32) = 0 ∨ (0 : Int32) = 1) (some (M, (0 : Int32)))) (fun M' v => LFr ad M0 M' ∧ ((pLn T tl p).1 = true → v = 1 ∧ MLs ad M' T tl (pLn T tl p).2 (lnS T tl p s) ∧ p + 1 ≤ (pLn T tl p).2 ∧ sB3 (pLn T tl p).2 (lnS T tl p s)) ∧ ((pLn T tl p).1 = false → v = 0 ∧ ∃ d' C' O' ro', MR ad M' T tl (pLn T tl p).2 d' C' O' ro')) := fun hk => by
      have e1 : pLn T tl p = (false, p) := by
        unfold pLn
        rw [if_neg k1, if_neg k2, if_neg k3, if_neg (by omega), if_neg (by omega), if_neg (by omega)]
      rw [e1]
      exact c_ck (Or.inl rfl) (c_some ⟨hF, fun g => absurd (show false = true from g) (by decide), fun _ => ⟨rfl, _, _, _, _, h.1⟩⟩)
    unfold m_X12_isOrderLine
    refine w_isC hS h.1 (t := 214) (vK_w (by decide)) (by decide) (fun c1 => ?_) (fun c1 => ?_)
    · rw [if_pos c1, if_neg (show ¬ kdT T tl p = 216 by omega)] at ord
      refine w_isC hS h.1 (t := 216) (vK_w (by decide)) (by decide) (fun c2 => absurd c1 (by omega)) (fun c2 => ?_)
      exact c_f (by decide) (ord (Or.inl c1))
    rw [if_neg c1] at ord
    refine w_isC hS h.1 (t := 216) (vK_w (by decide)) (by decide) (fun c2 => ?_) (fun c2 => ?_)
    · rw [if_pos c2] at ord
      exact c_t rfl (c_f (by decide) (ord (by omega)))
    rw [if_neg c2] at ord
    refine c_t rfl (c_t rfl (w_isC hS h.1 (t := 217) (vK_w (by decide)) (by decide) (fun c3 => ?_) (fun c3 => ?_)))
    · exact c_f (by decide) (ord (by omega))
    refine c_t rfl (w_isC hS h.1 (t := 218) (vK_w (by decide)) (by decide) (fun c4 => ?_) (fun c4 => ?_))
    · exact c_f (by decide) (ord (by omega))
    · exact c_t rfl (bad (by omega))
end PlanM
