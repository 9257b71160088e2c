/-! the reference's parser: names and numbers in a test -/
section PrimM2
variable {G : gS} {ad : Nat → Nat} {M : mS} {T : Nat → Nat} {tl p d : Nat} {C : List Int32} {O : List Nat} {ro : Nat → Nat}
theorem num_in {q : Nat} (h : kdT T tl q = 3) (htl : tl ≤ 2000) : (∀ j, j < lnT T tl q → dB (T (tkP T tl q + j)) = true ∧ tkP T tl q + j < tl) ∧ lnT T tl q ≤ 6 := by
  have hq := kdT_lt (T := T) (tl := tl) (q := q) (by omega)
  rw [kdT_in hq] at h
  have hk := tkE_ok (T := T) (tl := tl) (p := tkP T tl q) (by omega)
  unfold lnT
  generalize tkP T tl q = p at h hk ⊢
  have e : tkE T tl p = (3, rnE T tl false p) ∧ dB (T p) = true ∧ rnE T tl false p - p ≤ 6 := by
    unfold tkE at h ⊢
    by_cases h0 : tl ≤ p
    · rw [if_pos h0] at h; exact absurd h (show ¬ (0 : Nat) = 3 by decide)
    rw [if_neg h0] at h ⊢
    by_cases h1 : lB (T p) = true
    · rw [if_pos h1] at h
      exfalso
      split at h
      · have h : kwK (pkN T p (rnE T tl true p - p)) = 3 := h
        rcases kwK_ge (pkN T p (rnE T tl true p - p)) with g | g <;> omega
      · exact absurd h (show ¬ (1 : Nat) = 3 by decide)
    rw [if_neg h1] at h ⊢
    by_cases h3 : dB (T p) = true
    · rw [if_pos h3] at h ⊢
      by_cases h2 : rnE T tl false p - p ≤ 6
      · rw [if_pos h2]
        exact ⟨rfl, h3, h2⟩
      · rw [if_neg h2] at h; exact absurd h (show ¬ (1 : Nat) = 3 by decide)
    · exfalso
      rw [if_neg h3] at h
      split at h
      · have h : (if T p = 60 then 128 else 129) = 3 := h
        split at h <;> omega
      split at h
      · next h4 =>
        have := sB_t.mp h4
        have h : T p = 3 := h
        omega
      · exact absurd h (show ¬ (1 : Nat) = 3 by decide)
  rw [e.1] at hk ⊢
  have hk2 : rnE T tl false p ≤ tl := hk.2.1
  exact ⟨fun j hj => ⟨dg_all e.2.1 j hj, by have hj : j < rnE T tl false p - p := hj; omega⟩, e.2.2⟩
theorem w_num_loop (hS : Sh G ad) (htl : tl ≤ 2000) (h : MR ad M T tl p d C O ro) {q : Nat} (hq : q < nT T tl) (hk : kdT T tl q = 3) (hT : ∀ k, k < tl → T k < 256) : ∀ (n v f : Nat), v + n = lnT T tl q → n < f → m_X12_numberAt_4 G (ad 70) (zn q) f M (zn (nuN T (tkP T tl q) v)) (zn v) = some (M, zn (numT T tl q)) := by
  have hN := num_in hk htl
  have h400 := nT_le (T := T) (tl := tl)
  obtain ⟨⟨⟨a1, a2⟩, a3, a4⟩, _⟩ := h
  intro n
  induction n with
  | zero =>
    intro v f hv hf
    obtain ⟨f, rfl⟩ : ∃ g, f = g + 1 := ⟨f - 1, by omega⟩
    have hv : v = lnT T tl q := by omega
    refine cl_eq ?_
    rw [m_X12_numberAt_4]
    refine c_rf (sh_m6 hS) (c_ix (by rw [sh_mn6 hS]; exact zn_in (by omega) (by decide)) ?_)
    rw [zn_nat (by omega), a4 q hq]
    refine c_t (by rw [zn_le (by omega) (by omega)]; omega) (c_some ⟨rfl, ?_⟩)
    rw [hv]
    rfl
  | succ n ih =>
    intro v f hv hf
    obtain ⟨f, rfl⟩ : ∃ g, f = g + 1 := ⟨f - 1, by omega⟩
    obtain ⟨hd, hin⟩ := hN.1 v (by omega)
    have hd2 := dB_t.mp hd
    refine cl_eq ?_
    rw [m_X12_numberAt_4]
    refine c_rf (sh_m6 hS) (c_ix (by rw [sh_mn6 hS]; exact zn_in (by omega) (by decide)) ?_)
    rw [zn_nat (by omega), a4 q hq]
    refine c_f (by rw [zn_le (by omega) (by omega)]; omega) (c_rf (sh_m1 hS) (c_rf (sh_m5 hS) (c_ix (by rw [sh_mn5 hS]; exact zn_in (by omega) (by decide)) ?_)))
    rw [(a3 q (by omega)).2, zn_add]
    refine c_ix (by rw [sh_mn1 hS]; exact zn_in (by omega) (by decide)) ?_
    rw [zn_nat (show tkP T tl q + v < 2147483648 by omega), a2 _ hin]
    refine c_bd (c_bd ?_)
    rw [show (10 : Int32) * zn (nuN T (tkP T tl q) v) + zn (T (tkP T tl q + v)) - 48 = zn (nuN T (tkP T tl q) (v + 1)) from by
      rw [show (10 : Int32) = zn 10 from rfl, zn_mul, zn_add, show (48 : Int32) = zn 48 from rfl, zn_sub (by omega), nuN]
      congr 1
      omega, zn_one, ih (v + 1) f (by omega) (by omega)]
    exact c_some ⟨rfl, rfl⟩
theorem w_num (hS : Sh G ad) (htl : tl ≤ 2000) (h : MR ad M T tl p d C O ro) {q : Nat} (hk : kdT T tl q = 3) (hT : ∀ k, k < tl → T k < 256) : m_X12_numberAt G M (ad 70) (zn q) = some (M, zn (numT T tl q)) :=
  w_num_loop hS htl h (kdT_lt (by omega)) hk hT (lnT T tl q) 0 fu (by omega) (by have := (num_in hk htl).2; unfold fu; omega)
/-- what the reading of a piece comes to -/
def PostM (ad : Nat → Nat) (T : Nat → Nat) (tl d : Nat) (C : List Int32) (O : List Nat) (ro : Nat → Nat) (M : mS) (x : Option (mS × Int32)) (r : rS) : Prop := p_cl x (fun M' v => NFr ad M M' ∧ (r.1 = true → v = 1 ∧ MR ad M' T tl r.2.1 d (C ++ enT T tl r.2.2) (O ++ opT T tl C.length r.2.2) (roL r.2.2 ro)) ∧ (r.1 = false → v = 0 ∧ ∃ d' C' O' ro', MR ad M' T tl r.2.1 d' C' O' ro'))
theorem PM_no {M' : mS} {q d' : Nat} {C' : List Int32} {O' : List Nat} {ro' : Nat → Nat} (h : MR ad M' T tl q d' C' O' ro') (hF : NFr ad M M') : PostM ad T tl d C O ro M (o_ck ((0 : Int32) = 0 ∨ (0 : Int32) = 1) (some (M', (0 : Int32)))) (false, q, []) := c_ck (Or.inl rfl) (c_some ⟨hF, fun g => absurd (show false = true from g) (by decide), fun _ => ⟨rfl, _, _, _, _, h⟩⟩)
theorem PM_ck {x : Option (mS × Int32)} {r : rS} (h : PostM ad T tl d C O ro M x r) : PostM ad T tl d C O ro M (o_cl x (fun M1 r1 => o_ck (r1 = 0 ∨ r1 = 1) (some (M1, r1)))) r := by
  refine c_clm h ?_
  rintro M1 v ⟨a, b, c⟩
  refine c_ck ?_ (c_some ⟨a, b, c⟩)
  cases e : r.1
  · exact Or.inl (c e).1
  · exact Or.inr (b e).1
/-- an ant's word with its name -/
theorem w_named (hA : Inj ad) (hS : Sh G ad) (hq : gP G (ad 70) 12 = some (ad 126)) (hL : LSh G ad 126) (h : MR ad M T tl p d C O ro) (hk : isA (kdT T tl p) = true) (hk2 : 200 ≤ kdT T tl p ∧ kdT T tl p < 233) (hC : C.length ≤ 2 * p) (hO : O.length ≤ p) : PostM ad T tl d C O ro M (m_X12_isNamed G M (ad 70) 14) (pAnt (kdT T tl) p) := by
  have hn := nT_le (T := T) (tl := tl)
  have hp : p < nT T tl := kdT_lt (by omega)
  unfold m_X12_isNamed
  rw [h.2.1.1]
  refine c_rf (sh_m4 hS) (c_ix (by rw [sh_mn4 hS]; exact zn_in (by omega) (by decide)) ?_)
  rw [zn_nat (by omega), (h.1.2.1 p (by omega)).1]
  refine c_clm (w_put hA hq hL h (by omega)) ?_
  rintro M1 _ ⟨h1, f1⟩
  obtain ⟨h2, f2⟩ := MR_nx hA h1 hp
  refine c_wI ?_
  generalize wI M1 (ad 70) 9 (mI M1 (ad 70) 9 + 1) = M2 at h2 f2 ⊢
  have h2' := h2
  obtain ⟨⟨⟨a1, a2⟩, a3, a4⟩, ⟨b1, b2, b3⟩, ⟨c1, c2⟩, ⟨d1, d2⟩, e1⟩ := h2
  unfold m_X12_isName
  refine c_cl (c_rf hq (c_rf (l20 hL) (c_rf hq (c_rf hq ?_))))
  rw [d1, c1]
  refine c_ix (by rw [ln15 hL]; exact zn_in (by omega) (by decide)) (c_wI (c_rf hq (c_wI ?_)))
  rw [zn_nat (show O.length < 2147483648 by omega), wI_ne hA (show (126 : Nat) ≠ 126 + 15 ∨ (21 : Nat) ≠ O.length from Or.inl (by decide)), d1, zn_one]
  have eL : (C ++ [zn (kr (kdT T tl p))]).length = C.length + 1 := by rw [List.length_append]; rfl
  have h3 : MR ad (wI (wI M2 (ad (126 + 15)) O.length (zn (C ++ [zn (kr (kdT T tl p))]).length)) (ad 126) 21 (zn (O.length + 1))) T tl (p + 1) d (C ++ [zn (kr (kdT T tl p))]) (O ++ [C.length + 1]) ro := by
    refine ⟨⟨⟨?_, fun k hk => ?_⟩, fun j hj => ?_, fun j hj => ?_⟩, ⟨?_, b2, ?_⟩, ⟨?_, fun j hj => ?_⟩, ⟨?_, fun j hj => ?_⟩, fun j hj => ?_⟩
    · rw [wI_ne hA (Or.inl (by decide)), wI_ne hA (Or.inl (by decide))]; exact a1
    · rw [wI_ne hA (Or.inl (by decide)), wI_ne hA (Or.inl (by decide))]; exact a2 k hk
    · rw [wI_ne hA (Or.inl (by decide)), wI_ne hA (Or.inl (by decide)), wI_ne hA (Or.inl (by decide)), wI_ne hA (Or.inl (by decide))]; exact a3 j hj
    · rw [wI_ne hA (Or.inl (by decide)), wI_ne hA (Or.inl (by decide))]; exact a4 j hj
    · rw [wI_ne hA (Or.inl (by decide)), wI_ne hA (Or.inl (by decide))]; exact b1
    · rw [wI_ne hA (Or.inl (by decide)), wI_ne hA (Or.inl (by decide))]; exact b3
    · rw [wI_ne hA (Or.inr (by decide)), wI_ne hA (Or.inl (by decide))]; exact c1
    · rw [wI_ne hA (Or.inl (by decide)), wI_ne hA (Or.inl (by decide))]; exact c2 j hj
    · rw [wI_eq, List.length_append]; rfl
    · rw [List.length_append] at hj
      have hj : j < O.length + 1 := hj
      rw [wI_ne hA (Or.inl (by decide))]
      by_cases e : j = O.length
      · have : (O ++ [C.length + 1]).getD O.length 0 = C.length + 1 := getD_app (a := O) (b := [C.length + 1]) (j := 0) (d := 0)
        rw [e, this, wI_eq, eL]
      · have hlt : j < O.length := by omega
        rw [wI_ne hA (Or.inr e), d2 j hlt]
        congr 1
        simp [List.getD, List.getElem?_append_left hlt]
    · rw [wI_ne hA (Or.inl (by decide)), wI_ne hA (Or.inl (by decide))]; exact e1 j hj
  have f3 : NFr ad M2 (wI (wI M2 (ad (126 + 15)) O.length (zn (C ++ [zn (kr (kdT T tl p))]).length)) (ad 126) 21 (zn (O.length + 1))) := NFr_tr (NFr_x hA (Or.inr (Or.inr rfl))) (NFr_126 hA (Or.inr rfl))
  generalize wI (wI M2 (ad (126 + 15)) O.length (zn (C ++ [zn (kr (kdT T tl p))]).length)) (ad 126) 21 (zn (O.length + 1)) = M3 at h3 f3 ⊢
  refine c_clm (w_put hA hq hL h3 (by rw [eL]; omega)) ?_
  rintro M4 _ ⟨h4, f4⟩
  rw [h3.2.1.1] at h4
  refine c_clm (w_eatAs hA hS h4 (t := 2) (r0 := 14) (Or.inr (Or.inr (Or.inl rfl))) (by decide)) ?_
  rintro M5 r ⟨t5, n5, f5⟩
  have F := NFr_tr f1 (NFr_tr f2 (NFr_tr f3 (NFr_tr f4 f5)))
  unfold pAnt
  by_cases k : kdT T tl (p + 1) = 2
  · obtain ⟨rfl, h5⟩ := t5 k
    rw [if_pos k]
    refine c_ck (Or.inr rfl) (c_some (c_ck (Or.inr rfl) (c_some ⟨F, fun _ => ⟨rfl, ?_⟩, fun q => absurd (show true = false from q) (by decide)⟩)))
    have e2 : enT T tl [(kdT T tl p, p + 1)] = [zn (kr (kdT T tl p)), zn (p + 1)] := by
      have hkk : kdT T tl p = 222 ∨ kdT T tl p = 223 ∨ kdT T tl p = 224 ∨ kdT T tl p = 226 ∨ kdT T tl p = 227 := by
        unfold isA at hk
        rw [Bool.or_eq_true, decide_eq_true_iff, decide_eq_true_iff] at hk
        generalize kdT T tl p = k at hk
        unfold opc at hk
        split at hk <;> omega
      rw [enT_1]
      rcases hkk with e | e | e | e | e <;> rw [e] <;> rfl
    have e3 : opT T tl C.length [(kdT T tl p, p + 1)] = [C.length + 1] := by
      show (if isA (kdT T tl p) then [C.length + 1] else []) ++ [] = _
      rw [if_pos hk]
      rfl
    have e4 : roL [(kdT T tl p, p + 1)] ro = fun j => if j = p + 1 then 14 else ro j := by
      show roO ro (kdT T tl p, p + 1) = _
      unfold roO
      rw [if_pos hk]
    show MR ad M5 T tl (p + 2) d (C ++ enT T tl [(kdT T tl p, p + 1)]) (O ++ opT T tl C.length [(kdT T tl p, p + 1)]) (roL [(kdT T tl p, p + 1)] ro)
    rw [e2, e3, e4]
    rw [List.append_assoc] at h5
    exact h5
  · obtain ⟨rfl, h5⟩ := n5 k
    rw [if_neg k]
    exact c_ck (Or.inl rfl) (c_some (c_ck (Or.inl rfl) (c_some ⟨F, fun q => absurd (show false = true from q) (by decide), fun _ => ⟨rfl, _, _, _, _, h5⟩⟩)))
end PrimM2
