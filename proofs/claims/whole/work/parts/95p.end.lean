/-! the reference's second pass: its end -/
/-- where the tests of the orders stand in the code -/
def wL (T : Nat → Nat) (tl : Nat) : Nat → List (List sO) → List (Nat × Nat)
  | _, [] => []
  | b, L :: Ls => (b, b + (enT T tl L).length) :: wL T tl (b + (enT T tl L).length) Ls
/-- what stands in a plan, at b, of a program with n ants of rules ru -/
def mPb (ad : Nat → Nat) (M : mS) (b : Nat) (P : aP) (n : Nat) (ru : Nat → Nat) : Prop := (mI M (ad b) 0 = zn (pg_r P) ∧ mI M (ad b) 3 = zn n ∧ mI M (ad b) 11 = zn (pg_o P)) ∧ (∀ r, r < pg_r P → mI M (ad (b + 1)) r = zn (pg_z P r)) ∧ (∀ r, r < pg_r P → ∀ k, k < pg_z P r → mI M (ad (b + 2)) (6 * r + k) = zn (pg_t P r k)) ∧ (∀ i, i < n → mI M (ad (b + 4)) i = zn (ru i)) ∧ (∀ k, k < pg_o P → mI M (ad (b + 9)) k = zn (pg_k P k - 200) ∧ mI M (ad (b + 10)) k = zn (pg_f P k) ∧ mI M (ad (b + 11)) k = zn (pg_s P k)) ∧ ∀ k, k < pg_o P → ∃ q, mI M (ad (b + 12)) k = zn q ∧ mI M (ad (b + 13)) k = zn (q + (encL (pg_T P k)).length) ∧ q + (encL (pg_T P k)).length ≤ 800 ∧ ∀ j, j < (encL (pg_T P k)).length → mI M (ad (b + 14)) (q + j) = (encL (pg_T P k)).getD j 0
theorem mPb_110 {ad : Nat → Nat} {M : mS} {P : aP} {n : Nat} {ru : Nat → Nat} (h : mPb ad M 110 P n ru) : mP ad M P n ru := h
section EndR
variable {G : gS} {ad : Nat → Nat} {T : Nat → Nat} {tl : Nat}
theorem wL_ok {M : mS} : ∀ (Ls : List (List sO)) (b k : Nat), k < Ls.length → ∃ q, (wL T tl b Ls).getD k (0, 0) = (q, q + (enT T tl (Ls.getD k [])).length) ∧ q + (enT T tl (Ls.getD k [])).length ≤ b + (enT T tl Ls.flatten).length ∧ b ≤ q ∧ ∀ j, j < (enT T tl (Ls.getD k [])).length → (encL (Ls.flatten.map (cM ad M T tl))).getD (q - b + j) 0 = (encL ((Ls.getD k []).map (cM ad M T tl))).getD j 0 := by
  intro Ls
  induction Ls with
  | nil => intro b k hk; exact absurd hk (Nat.not_lt_zero k)
  | cons L Ls ih =>
    intro b k hk
    have eF : enT T tl (L :: Ls).flatten = enT T tl L ++ enT T tl Ls.flatten := by
      rw [List.flatten_cons, enT_app]
    have eM : encL ((L :: Ls).flatten.map (cM ad M T tl)) = encL (L.map (cM ad M T tl)) ++ encL (Ls.flatten.map (cM ad M T tl)) := by
      rw [List.flatten_cons, List.map_append, encL_app]
    match k with
    | 0 =>
      refine ⟨b, rfl, ?_, Nat.le_refl _, fun j hj => ?_⟩
      · rw [eF, List.length_append]
        show b + (enT T tl L).length ≤ _
        omega
      · have hj : j < (enT T tl L).length := hj
        rw [eM, show b - b + j = j by omega, getD_lt (by rw [encL_cl]; exact hj)]
        rfl
    | k + 1 =>
      have hk : k + 1 < Ls.length + 1 := hk
      obtain ⟨q, h1, h2, h3, h4⟩ := ih (b + (enT T tl L).length) k (by omega)
      refine ⟨q, h1, ?_, by omega, fun j hj => ?_⟩
      · rw [eF, List.length_append]
        show q + (enT T tl (Ls.getD k [])).length ≤ _
        omega
      · have := h4 j hj
        rw [eM, show q - b + j = (encL (L.map (cM ad M T tl))).length + (q - (b + (enT T tl L).length) + j) by rw [encL_cl]; omega, getD_app, this]
        rfl
theorem allS_F : ∀ (f p : Nat) (s : aM), (allS T tl f p s).1 = s.1 ++ enT T tl (orL T tl f p).flatten ∧ (allS T tl f p s).2.1 = s.2.1 ++ opT T tl s.1.length (orL T tl f p).flatten ∧ (allS T tl f p s).2.2.2 = s.2.2.2 ++ wL T tl s.1.length (orL T tl f p) := by
  intro f
  induction f with
  | zero =>
    intro p s
    refine ⟨?_, ?_, ?_⟩
    · exact (List.append_nil _).symm
    · exact (List.append_nil _).symm
    · exact (List.append_nil _).symm
  | succ f ih =>
    intro p s
    rw [allS, orL]
    by_cases k0 : kdT T tl p = 0
    · rw [if_pos k0, if_pos k0]
      refine ⟨?_, ?_, ?_⟩
      · exact (List.append_nil _).symm
      · exact (List.append_nil _).symm
      · exact (List.append_nil _).symm
    rw [if_neg k0, if_neg k0]
    obtain ⟨i1, i2, i3⟩ := ih (pLnE T tl p).2 (lnS T tl p s)
    rw [i1, i2, i3]
    unfold lnS
    by_cases ho : isO (kdT T tl p) = true
    · rw [if_pos ho, if_pos ho]
      refine ⟨?_, ?_, ?_⟩
      · show (s.1 ++ enT T tl (lnL T tl p)) ++ enT T tl (orL T tl f (pLnE T tl p).2).flatten = s.1 ++ enT T tl (lnL T tl p :: orL T tl f (pLnE T tl p).2).flatten
        rw [List.flatten_cons, enT_app, List.append_assoc]
      · show (s.2.1 ++ opT T tl s.1.length (lnL T tl p)) ++ opT T tl (s.1 ++ enT T tl (lnL T tl p)).length (orL T tl f (pLnE T tl p).2).flatten = s.2.1 ++ opT T tl s.1.length (lnL T tl p :: orL T tl f (pLnE T tl p).2).flatten
        rw [List.flatten_cons, opT_app, List.append_assoc, List.length_append]
      · show (s.2.2.2 ++ [(s.1.length, (s.1 ++ enT T tl (lnL T tl p)).length)]) ++ wL T tl (s.1 ++ enT T tl (lnL T tl p)).length (orL T tl f (pLnE T tl p).2) = s.2.2.2 ++ wL T tl s.1.length (lnL T tl p :: orL T tl f (pLnE T tl p).2)
        rw [List.append_assoc, List.length_append]
        rfl
    · rw [if_neg ho, if_neg ho]
      exact ⟨rfl, rfl, rfl⟩
theorem orL_len : ∀ (f p : Nat), (pAll T tl f p).1 = true → (orL T tl f p).flatten.length + p ≤ (pAll T tl f p).2 := by
  intro f
  induction f with
  | zero => intro p h; show 0 + p ≤ p; omega
  | succ f ih =>
    intro p h
    by_cases k0 : kdT T tl p = 0
    · rw [pAll, if_pos k0, orL, if_pos k0]
      show 0 + p ≤ p
      omega
    · obtain ⟨a, b⟩ := pAll_su h k0
      obtain ⟨l1, l2, l3⟩ := line_lt a
      obtain ⟨g1, g2, g3⟩ := line_ok a
      rw [b] at h ⊢
      have := ih _ h
      rw [orL, if_neg k0]
      by_cases ho : isO (kdT T tl p) = true
      · rw [if_pos ho, List.flatten_append, List.length_append]
        have e1 : ([lnL T tl p] : List (List sO)).flatten.length = (lnL T tl p).length := by rw [List.flatten_cons, List.flatten_nil, List.append_nil]
        rw [e1]
        rw [pLn_ord ho] at g1 g3
        have := (ord_ok l1 g1).2.1
        omega
      · rw [if_neg ho, List.nil_append]
        omega
theorem orL_kO : ∀ (f p : Nat), kO (kdT T tl) (orL T tl f p).flatten := by
  intro f
  induction f with
  | zero => intro p; exact kO_nil
  | succ f ih =>
    intro p
    rw [orL]
    split
    · exact kO_nil
    · rw [List.flatten_append]
      refine kO_app ?_ (ih _)
      split
      · rw [List.flatten_cons, List.flatten_nil, List.append_nil]
        unfold lnL
        split
        · exact pz_kO 100 3 0 _
        split
        · exact pz_kO 100 3 0 _
        · exact pz_kO 100 3 0 _
      · exact kO_nil
/-- the pass's end: the plan is read -/
theorem rd_end {ro : Nat → Nat} (hE : EV G ad T tl ro) {x f : Nat} (hx : x ≤ nT T tl) {σ : aS} {Ls : List (List sO)} {M : mS} (hp : Ls.flatten.length ≤ 400) (hk : kO (kdT T tl) Ls.flatten) (hl : Ls.length ≤ 20) (h : CL ad T tl (enT T tl Ls.flatten) (opT T tl 0 Ls.flatten) ro (wL T tl 0 Ls) M M x x σ) (ht : TI ad M T tl x σ Ls) : p_cl (m_X12_read_57 G (ad 70) (f + 1) M (zn x)) (fun M' r => r = 0 ∧ Fr (fun q => q = ad 140) M M' ∧ mPb ad M' 126 (sgP σ) (yd_n (sgY σ)) (fun i => an_r (yd_a (sgY σ) i))) := by
  obtain ⟨hA, hS, hq, hL, htl, hT, hro, hr1, hr2⟩ := hE
  have hn := nT_le (T := T) (tl := tl)
  obtain ⟨⟨hM, w1, w2⟩, hR, _⟩ := h
  obtain ⟨t1, t2, t3, t4⟩ := ht
  have e1 := enT_len (T := T) (tl := tl) Ls.flatten
  have e2 := opT_len (T := T) (tl := tl) Ls.flatten 0
  have hWl : ∀ (Ls : List (List sO)) (b : Nat), (wL T tl b Ls).length = Ls.length := by
    intro Ls
    induction Ls with
    | nil => intro b; rfl
    | cons L Ls ih => intro b; show (wL T tl _ Ls).length + 1 = Ls.length + 1; rw [ih]
  rw [m_X12_read_57, hM.2.1.1]
  refine c_t (by rw [zn_le (by omega) (by omega)]; omega) ?_
  have := rd_open hA hS hq hL Ls.flatten 0 0 (opT T tl 0 Ls.flatten).length fu M (by omega) (by omega) hM.2.2.2.1.1 (fun i hi => by rw [Nat.zero_add]; exact hM.2.2.2.1.2 i hi) (fun i hi => by rw [Nat.zero_add]; exact hM.2.2.1.2 i hi) (by omega) (fun o ho hA1 => by
    obtain ⟨L, hL1, hL2⟩ := List.mem_flatten.mp ho
    have := t3 L hL1 o hL2 hA1
    omega) hk (by show _ < 100000; omega)
  refine c_mono this ?_
  rintro M' r ⟨r0, F, _, c2⟩
  have k : ∀ b, b ≠ 140 → mI M' (ad b) = mI M (ad b) := fun b hb => F.1 _ (fun q => ad_ne hA hb q)
  refine ⟨r0, F, ⟨?_, ?_, ?_⟩, fun i hi => ?_, fun i hi j hj => ?_, fun i hi => ?_, fun i hi => ?_, fun i hi => ?_⟩
  · rw [k 126 (by decide)]; exact hR.1.1
  · rw [k 126 (by decide)]; exact hR.1.2.1
  · rw [k 126 (by decide)]; exact hR.1.2.2.1
  · rw [k (126 + 1) (by decide)]; exact hR.2.1.1 i hi
  · rw [k (126 + 2) (by decide)]; exact hR.2.1.2.2 i hi j hj
  · rw [k (126 + 4) (by decide)]; exact (hR.2.2.1.1 i hi).1
  · rw [k (126 + 9) (by decide), k (126 + 10) (by decide), k (126 + 11) (by decide)]; exact hR.2.2.2.2.1 i hi
  · obtain ⟨q, q1, q2, q3, q4⟩ := wL_ok (ad := ad) (T := T) (tl := tl) (M := M) Ls 0 i (by omega)
    have eT : encL (pg_T (sgP σ) i) = encL ((Ls.getD i []).map (cM ad M T tl)) := by rw [t2 i hi]
    have eN : (encL (pg_T (sgP σ) i)).length = (enT T tl (Ls.getD i [])).length := by rw [eT, encL_cl]
    have hw := w2 i (by rw [hWl]; omega) (by omega)
    rw [q1] at hw
    refine ⟨q, ?_, ?_, ?_, fun j hj => ?_⟩
    · rw [k (126 + 12) (by decide)]; exact hw.1
    · rw [k (126 + 13) (by decide), eN]; exact hw.2
    · rw [eN]; omega
    · rw [eN] at hj
      have := q4 j hj
      have hj2 := c2 (q + j) (by rw [encL_cl]; omega)
      rw [Nat.zero_add] at hj2
      rw [show q - 0 + j = q + j by omega] at this
      rw [eT]
      exact hj2.trans this
end EndR
