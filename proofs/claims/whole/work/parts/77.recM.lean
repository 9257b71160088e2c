/-! the reference's parser: sums -/
section RecM
variable {G : gS} {ad : Nat → Nat} {T : Nat → Nat} {tl : Nat}
theorem enT_op {k p : Nat} (h : opc k = 2 ∨ 5 ≤ opc k) : enT T tl [(k, p)] = [zn (mc k)] := by
  rw [enT_1]
  exact if_pos h
theorem opT_op {k p b : Nat} (h : isA k = false) : opT T tl b [(k, p)] = [] := by
  show (if isA k then [b + 1] else []) ++ [] = _
  rw [h]
  rfl
theorem roL_op {k p : Nat} {r : Nat → Nat} (h : isA k = false) : roL [(k, p)] r = r := by
  show roO r (k, p) = r
  unfold roO
  rw [if_neg (by show ¬ isA k = true; rw [h]; decide)]
/-- an operation is put behind what is read -/
theorem MR_op {M : mS} {p d : Nat} {C : List Int32} {O : List Nat} {ro : Nat → Nat} {L : List sO} {k t : Nat} (hk : (opc k = 2 ∨ 5 ≤ opc k) ∧ isA k = false) (h : MR ad M T tl p d (C ++ enT T tl L ++ [zn (mc k)]) (O ++ opT T tl C.length L) (roL L ro)) : MR ad M T tl p d (C ++ enT T tl (L ++ [(k, t)])) (O ++ opT T tl C.length (L ++ [(k, t)])) (roL (L ++ [(k, t)]) ro) := by
  rw [enT_app, opT_app, roL_app, enT_op hk.1, opT_op hk.2, roL_op hk.2, List.append_nil, ← List.append_assoc]
  exact h
theorem MR_two {M : mS} {p d : Nat} {C : List Int32} {O : List Nat} {ro : Nat → Nat} {L K : List sO} (h : MR ad M T tl p d (C ++ enT T tl L ++ enT T tl K) (O ++ opT T tl C.length L ++ opT T tl (C ++ enT T tl L).length K) (roL K (roL L ro))) : MR ad M T tl p d (C ++ enT T tl (L ++ K)) (O ++ opT T tl C.length (L ++ K)) (roL (L ++ K) ro) := by
  rw [enT_app, opT_app, roL_app, ← List.append_assoc, ← List.append_assoc]
  rw [List.length_append] at h
  exact h
/-- lengths stay behind the place -/
theorem ln_ok {p : Nat} {C : List Int32} {O : List Nat} {r : rS} (hr : rOk (nT T tl) p r) (g : r.1 = true) (hC : C.length ≤ 2 * p) (hO : O.length ≤ p) {b : Nat} : (C ++ enT T tl r.2.2).length ≤ 2 * r.2.1 ∧ (O ++ opT T tl b r.2.2).length ≤ r.2.1 := by
  have h1 := hr.2.2 g
  have h2 := hr.1
  have h3 := enT_len (T := T) (tl := tl) r.2.2
  have h4 := opT_len (T := T) (tl := tl) r.2.2 b
  rw [List.length_append, List.length_append]
  omega
theorem pz_rok {f t d p : Nat} (hp : p ≤ nT T tl) : rOk (nT T tl) p (pz (kdT T tl) f t d p) := pz_ok (fun _ _ h => kdT_lt h) f t d p hp
abbrev wG (G : gS) (ad : Nat → Nat) (T : Nat → Nat) (tl : Nat) (X : mS → Option (mS × Int32)) (d : Nat) (Rz : Nat → rS) : Prop := ∀ (M : mS) (C : List Int32) (O : List Nat) (ro : Nat → Nat) (p : Nat), MR ad M T tl p d C O ro → C.length ≤ 2 * p → O.length ≤ p → PostM ad T tl d C O ro M (X M) (Rz p)
/-- a loop over what is put between pieces -/
theorem w_loop (hA : Inj ad) (hS : Sh G ad) (hq : gP G (ad 70) 12 = some (ad 126)) (hL : LSh G ad 126) {d : Nat} {X : mS → Option (mS × Int32)} {Rz : Nat → rS} {q : Nat → Bool} {loop : Nat → mS → Option (mS × Int32)} (hq2 : ∀ k, q k = true → 2 ≤ k ∧ ((opc k = 2 ∨ 5 ≤ opc k) ∧ isA k = false))
    (hX : wG G ad T tl X d Rz) (hR : ∀ p, p ≤ nT T tl → rOk (nT T tl) p (Rz p))
    (hl : ∀ (n : Nat) (M : mS) (p : Nat) (C : List Int32) (O : List Nat) (ro : Nat → Nat) (Q : mS → Int32 → Prop), MR ad M T tl p d C O ro → (q (kdT T tl p) = true → ∀ M', MR ad M' T tl (p + 1) d C O ro → NFr ad M M' → p_cl (o_cl (X M') (fun M2 r3 => (if r3 = 0 then o_ck ((0 : Int32) = 0 ∨ (0 : Int32) = 1) (some (M2, (0 : Int32))) else o_cl (m_X12_put G M2 (ad 70) (zn (mc (kdT T tl p)))) (fun M6 r7 => loop n M6)))) Q) → (¬ q (kdT T tl p) = true → ∀ M', MR ad M' T tl p d C O ro → NFr ad M M' → p_cl (o_ck ((1 : Int32) = 0 ∨ (1 : Int32) = 1) (some (M', (1 : Int32)))) Q) → p_cl (loop (n + 1) M) Q) :
    ∀ (n i f : Nat) (M0 M : mS) (C0 : List Int32) (O0 : List Nat) (ro0 : Nat → Nat) (p0 : Nat) (r : rS), i + n = 401 → n < f → i ≤ r.2.1 → C0.length ≤ 2 * p0 → O0.length ≤ p0 → r.1 = true → rOk (nT T tl) p0 r → NFr ad M0 M → MR ad M T tl r.2.1 d (C0 ++ enT T tl r.2.2) (O0 ++ opT T tl C0.length r.2.2) (roL r.2.2 ro0) → PostM ad T tl d C0 O0 ro0 M0 (loop f M) (pLoop (kdT T tl) Rz q n r) := by
  intro n
  have hE : ∀ q, q ≤ nT T tl → 2 ≤ kdT T tl q → q < nT T tl := fun _ _ h => kdT_lt h
  have hn := nT_le (T := T) (tl := tl)
  induction n with
  | zero =>
    intro i f M0 M C0 O0 ro0 p0 r hi hf hp hC hO ht hr hF h
    have := hr.2.1
    omega
  | succ n ih =>
    intro i f M0 M C0 O0 ro0 p0 r hi hf hp hC hO ht hr hF h
    obtain ⟨f, rfl⟩ : ∃ g, f = g + 1 := ⟨f - 1, by omega⟩
    refine hl f M r.2.1 _ _ _ _ h (fun gq => ?_) (fun gq => ?_)
    · intro M1 h1 f1
      obtain ⟨k2, kop⟩ := hq2 _ gq
      have hlt := kdT_lt (T := T) (tl := tl) (q := r.2.1) (by omega)
      obtain ⟨l1, l2⟩ := ln_ok (b := C0.length) hr ht hC hO
      rw [pLoop, if_pos (by rw [ht, gq]; rfl)]
      refine c_clm (hX M1 _ _ _ (r.2.1 + 1) h1 (by omega) (by omega)) ?_
      rintro M2 v ⟨f2, t2, n2⟩
      have hr2 := hR (r.2.1 + 1) (by omega)
      cases e2 : (Rz (r.2.1 + 1)).1
      · obtain ⟨rfl, d', C', O', ro', h2⟩ := n2 e2
        have : pLoop (kdT T tl) Rz q n (false, (Rz (r.2.1 + 1)).2.1, r.2.2 ++ ((Rz (r.2.1 + 1)).2.2 ++ [(kdT T tl r.2.1, r.2.1)])) = (false, (Rz (r.2.1 + 1)).2.1, r.2.2 ++ ((Rz (r.2.1 + 1)).2.2 ++ [(kdT T tl r.2.1, r.2.1)])) := by
          cases n with
          | zero => rfl
          | succ n => rw [pLoop, if_neg (by show ¬ (false && _) = true; rw [Bool.false_and]; decide)]
        rw [this]
        exact c_t rfl (c_ck (Or.inl rfl) (c_some ⟨NFr_tr hF (NFr_tr f1 f2), fun g => absurd (show false = true from g) (by decide), fun _ => ⟨rfl, _, _, _, _, h2⟩⟩))
      · obtain ⟨rfl, h2⟩ := t2 e2
        have h3 := hr2.2.2 e2
        obtain ⟨l3, l4⟩ := ln_ok (b := (C0 ++ enT T tl r.2.2).length) hr2 e2 (show (C0 ++ enT T tl r.2.2).length ≤ 2 * (r.2.1 + 1) by omega) (show (O0 ++ opT T tl C0.length r.2.2).length ≤ r.2.1 + 1 by omega)
        have l5 : (C0 ++ enT T tl r.2.2 ++ enT T tl (Rz (r.2.1 + 1)).2.2).length < 800 := by
          have a1 := enT_len (T := T) (tl := tl) (Rz (r.2.1 + 1)).2.2
          have a2 := hr2.2.1
          rw [List.length_append]
          omega
        refine c_f (by decide) (c_clm (w_put hA hq hL h2 l5) ?_)
        rintro M3 _ ⟨h4, f4⟩
        have hr3 : rOk (nT T tl) p0 (true, (Rz (r.2.1 + 1)).2.1, r.2.2 ++ ((Rz (r.2.1 + 1)).2.2 ++ [(kdT T tl r.2.1, r.2.1)])) := by
          have := hr.1
          have h5 := hr.2.2 ht
          refine ⟨by show p0 ≤ (Rz (r.2.1 + 1)).2.1; have := hr2.1; omega, hr2.2.1, fun _ => ⟨by show p0 < (Rz (r.2.1 + 1)).2.1; omega, ?_, ?_⟩⟩
          · show (r.2.2 ++ ((Rz (r.2.1 + 1)).2.2 ++ [(kdT T tl r.2.1, r.2.1)])).length ≤ (Rz (r.2.1 + 1)).2.1 - p0
            rw [List.length_append, List.length_append]
            show r.2.2.length + ((Rz (r.2.1 + 1)).2.2.length + 1) ≤ _
            omega
          · exact aInc_app h5.2.2 (aInc_app (aInc_lo h3.2.2 (by omega)) (aInc_1 kop.2 (Nat.le_refl _)))
        refine ih (i + 1) f M0 M3 C0 O0 ro0 p0 (true, _, _) (by omega) (by omega) (by show i + 1 ≤ (Rz (r.2.1 + 1)).2.1; have := hr2.1; omega) hC hO rfl hr3 (NFr_tr hF (NFr_tr f1 (NFr_tr f2 f4))) ?_
        show MR ad M3 T tl (Rz (r.2.1 + 1)).2.1 d (C0 ++ enT T tl (r.2.2 ++ ((Rz (r.2.1 + 1)).2.2 ++ [(kdT T tl r.2.1, r.2.1)]))) (O0 ++ opT T tl C0.length (r.2.2 ++ ((Rz (r.2.1 + 1)).2.2 ++ [(kdT T tl r.2.1, r.2.1)]))) (roL (r.2.2 ++ ((Rz (r.2.1 + 1)).2.2 ++ [(kdT T tl r.2.1, r.2.1)])) ro0)
        refine MR_two ?_
        exact MR_op (C := C0 ++ enT T tl r.2.2) (O := O0 ++ opT T tl C0.length r.2.2) (ro := roL r.2.2 ro0) kop h4
    · intro M1 h1 f1
      rw [pLoop, if_neg (fun g => by rw [Bool.and_eq_true] at g; exact gq g.2)]
      exact c_ck (Or.inr rfl) (c_some ⟨NFr_tr hF f1, fun _ => ⟨rfl, h1⟩, fun g => by rw [ht] at g; exact absurd g (by decide)⟩)
end RecM
