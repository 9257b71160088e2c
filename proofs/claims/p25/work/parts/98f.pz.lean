/-! tests that are told, read -/
section Pz
variable {kd : Nat → Nat} {R : Nat → rS} {q : Nat → Bool} {f d p p1 p2 p3 : Nat} {L L1 L2 L3 : List sO}
theorem lp_0 (h : q (kd p) = false) : pLoop kd R q (f + 1) (true, p, L) = (true, p, L) := by
  rw [pLoop]
  show (if (true && q (kd p)) = true then _ else (true, p, L)) = _
  rw [h]
  rfl
theorem lp_1 (h : q (kd p) = true) (hR : R (p + 1) = (true, p1, L1)) : pLoop kd R q (f + 1) (true, p, L) = pLoop kd R q f (true, p1, L ++ (L1 ++ [(kd p, p)])) := by
  rw [pLoop]
  show (if (true && q (kd p)) = true then pLoop kd R q f ((R (p + 1)).1, (R (p + 1)).2.1, L ++ ((R (p + 1)).2.2 ++ [(kd p, p)])) else _) = _
  rw [h, hR]
  rfl
theorem v_n (h : kd p = 3 ∨ kd p = 220 ∨ kd p = 221) : pz kd (f + 1) 2 d p = (true, p + 1, [(kd p, p)]) := by rw [pz, if_pos h]
theorem v_a (h : kd p = 222 ∨ kd p = 223 ∨ kd p = 224) (h2 : kd (p + 1) = 2) : pz kd (f + 1) 2 d p = (true, p + 2, [(kd p, p + 1)]) := by
  rw [pz, if_neg (by omega), if_pos h]
  unfold pAnt
  rw [if_pos h2]
theorem v_r (hd : ¬ 8 ≤ d) (h : kd p = 225) (h2 : kd (p + 1) = 40) (hR : pz kd f 0 (d + 1) (p + 1 + 1) = (true, p1, L)) (h3 : kd p1 = 41) : pz kd (f + 1) 2 d p = (true, p1 + 1, L ++ [(225, p)]) := by
  rw [pz, if_neg (by omega), if_neg (by omega), if_pos h]
  unfold pGrp
  rw [if_neg hd, if_pos h2]
  simp only [hR]
  rw [if_pos trivial, if_pos h3]
theorem m_1 (h : pz kd f 2 d p = (true, p1, L)) (hq : qMul (kd p1) = false) : pz kd (f + 1) 1 d p = (true, p1, L) := by
  rw [pz, h]
  exact lp_0 (f := 400) hq
theorem m_2 (h : pz kd f 2 d p = (true, p1, L)) (hq : qMul (kd p1) = true) (h2 : pz kd f 2 d (p1 + 1) = (true, p2, L1)) (hq2 : qMul (kd p2) = false) : pz kd (f + 1) 1 d p = (true, p2, L ++ (L1 ++ [(kd p1, p1)])) := by
  rw [pz, h]
  exact (lp_1 (f := 400) hq h2).trans (lp_0 (f := 399) hq2)
theorem m_3 (h : pz kd f 2 d p = (true, p1, L)) (hq : qMul (kd p1) = true) (h2 : pz kd f 2 d (p1 + 1) = (true, p2, L1)) (hq2 : qMul (kd p2) = true) (h3 : pz kd f 2 d (p2 + 1) = (true, p3, L2)) (hq3 : qMul (kd p3) = false) : pz kd (f + 1) 1 d p = (true, p3, (L ++ (L1 ++ [(kd p1, p1)])) ++ (L2 ++ [(kd p2, p2)])) := by
  rw [pz, h]
  exact (lp_1 (f := 400) hq h2).trans ((lp_1 (f := 399) hq2 h3).trans (lp_0 (f := 398) hq3))
theorem s_1 (h : pz kd f 1 d p = (true, p1, L)) (hq : qAdd (kd p1) = false) : pz kd (f + 1) 0 d p = (true, p1, L) := by
  rw [pz, h]
  exact lp_0 (f := 400) hq
theorem s_2 (h : pz kd f 1 d p = (true, p1, L)) (hq : qAdd (kd p1) = true) (h2 : pz kd f 1 d (p1 + 1) = (true, p2, L1)) (hq2 : qAdd (kd p2) = false) : pz kd (f + 1) 0 d p = (true, p2, L ++ (L1 ++ [(kd p1, p1)])) := by
  rw [pz, h]
  exact (lp_1 (f := 400) hq h2).trans (lp_0 (f := 399) hq2)
theorem t_c (h0 : ¬ kd p = 228 ∧ ¬ kd p = 91 ∧ ¬ (kd p = 226 ∨ kd p = 227)) (h : pz kd f 0 d p = (true, p1, L)) (hq : qCmp (kd p1) = true) (h2 : pz kd f 0 d (p1 + 1) = (true, p2, L1)) : pz kd (f + 1) 5 d p = (true, p2, L ++ (L1 ++ [(kd p1, p1)])) := by
  rw [pz, if_neg h0.1, if_neg h0.2.1, if_neg h0.2.2]
  · simp only [h, h2]
    rw [if_pos trivial, if_pos hq]
  all_goals (intro z; omega)
theorem t_m (h : kd p = 226 ∨ kd p = 227) (h2 : kd (p + 1) = 2) : pz kd (f + 1) 5 d p = (true, p + 2, [(kd p, p + 1)]) := by
  rw [pz, if_neg (by omega), if_neg (by omega), if_pos h]
  · unfold pAnt
    rw [if_pos h2]
  all_goals (intro z; omega)
theorem t_n (hd : d < 8) (h : kd p = 228) (h2 : pz kd f 5 (d + 1) (p + 1) = (true, p1, L)) : pz kd (f + 1) 5 d p = (true, p1, L ++ [(228, p)]) := by
  rw [pz, if_pos h]
  · unfold pNeg
    rw [if_pos hd]
    simp only [h2]
  all_goals (intro z; omega)
theorem a_1 (h : pz kd f 5 d p = (true, p1, L)) (hq : qAnd (kd p1) = false) : pz kd (f + 1) 4 d p = (true, p1, L) := by
  rw [pz, h]
  exact lp_0 (f := 400) hq
theorem a_2 (h : pz kd f 5 d p = (true, p1, L)) (hq : qAnd (kd p1) = true) (h2 : pz kd f 5 d (p1 + 1) = (true, p2, L1)) (hq2 : qAnd (kd p2) = false) : pz kd (f + 1) 4 d p = (true, p2, L ++ (L1 ++ [(kd p1, p1)])) := by
  rw [pz, h]
  exact (lp_1 (f := 400) hq h2).trans (lp_0 (f := 399) hq2)
theorem o_1 (h : pz kd f 4 d p = (true, p1, L)) (hq : qOr (kd p1) = false) : pz kd (f + 1) 3 d p = (true, p1, L) := by
  rw [pz, h]
  exact lp_0 (f := 400) hq
theorem o_2 (h : pz kd f 4 d p = (true, p1, L)) (hq : qOr (kd p1) = true) (h2 : pz kd f 4 d (p1 + 1) = (true, p2, L1)) (hq2 : qOr (kd p2) = false) : pz kd (f + 1) 3 d p = (true, p2, L ++ (L1 ++ [(kd p1, p1)])) := by
  rw [pz, h]
  exact (lp_1 (f := 400) hq h2).trans (lp_0 (f := 399) hq2)
/-- a number alone, ahead of what ends it -/
theorem w_n {k : Nat} (h : kd p = 3 ∨ kd p = 220 ∨ kd p = 221) (h1 : kd (p + 1) = k) (hk : qMul k = false ∧ qAdd k = false) : pz kd (f + 3) 0 d p = (true, p + 1, [(kd p, p)]) := s_1 (m_1 (v_n h) (by rw [h1]; exact hk.1)) (by rw [h1]; exact hk.2)
theorem w_a {k : Nat} (h : kd p = 222 ∨ kd p = 223 ∨ kd p = 224) (h2 : kd (p + 1) = 2) (h1 : kd (p + 2) = k) (hk : qMul k = false ∧ qAdd k = false) : pz kd (f + 3) 0 d p = (true, p + 2, [(kd p, p + 1)]) := s_1 (m_1 (v_a h h2) (by rw [h1]; exact hk.1)) (by rw [h1]; exact hk.2)
theorem pz_0 (h0 : kd p = 221) (h1 : kd (p + 1) = 62) (h2 : kd (p + 2) = 3) (h3 : kd (p + 3) = 59) : pz kd (f + 6) 3 0 p = (true, p + 3, [(221, p), (3, p + 2), (62, p + 1)]) := by
  have a := w_n (f := f) (d := 0) (p := p) (Or.inr (Or.inr h0)) h1 (by decide)
  have b := w_n (f := f) (d := 0) (p := p + 2) (Or.inl h2) h3 (by decide)
  have c := o_1 (a_1 (t_c (by omega) a (by rw [h1]; rfl) b) (by rw [h3]; rfl)) (by rw [h3]; rfl)
  rw [h0, h1, h2] at c
  exact c
theorem pz_1 (h0 : kd p = 220) (h1 : kd (p + 1) = 45) (h2 : kd (p + 2) = 220) (h3 : kd (p + 3) = 47) (h4 : kd (p + 4) = 3) (h5 : kd (p + 5) = 42) (h6 : kd (p + 6) = 3) (h7 : kd (p + 7) = 61) (h8 : kd (p + 8) = 3) (h9 : kd (p + 9) = 59) : pz kd (f + 6) 3 0 p = (true, p + 9, [(220, p), (220, p + 2), (3, p + 4), (47, p + 3), (3, p + 6), (42, p + 5), (45, p + 1), (3, p + 8), (61, p + 7)]) := by
  have a := m_1 (v_n (f := f) (d := 0) (p := p) (Or.inr (Or.inl h0))) (by rw [h1]; rfl)
  have v2 := v_n (f := f) (d := 0) (p := p + 2) (Or.inr (Or.inl h2))
  have v4 := v_n (f := f) (d := 0) (p := p + 4) (Or.inl h4)
  have v6 := v_n (f := f) (d := 0) (p := p + 6) (Or.inl h6)
  have m := m_3 (p1 := p + 3) (p2 := p + 5) (p3 := p + 7) v2 (by rw [h3]; rfl) v4 (by rw [h5]; rfl) v6 (by rw [h7]; rfl)
  have s := s_2 (p1 := p + 1) (p2 := p + 7) a (by rw [h1]; rfl) m (by rw [h7]; rfl)
  have b := w_n (f := f) (d := 0) (p := p + 8) (Or.inl h8) h9 (by decide)
  have c := o_1 (a_1 (t_c (p1 := p + 7) (p2 := p + 9) (by omega) s (by rw [h7]; rfl) b) (by rw [h9]; rfl)) (by rw [h9]; rfl)
  rw [h0, h1, h2, h3, h4, h5, h6, h7, h8] at c
  exact c
theorem pz_2 (h0 : kd p = 222) (h1 : kd (p + 1) = 2) (h2 : kd (p + 2) = 60) (h3 : kd (p + 3) = 3) (h4 : kd (p + 4) = 230) (h5 : kd (p + 5) = 226) (h6 : kd (p + 6) = 2) (h7 : kd (p + 7) = 59) : pz kd (f + 6) 3 0 p = (true, p + 7, [(222, p + 1), (3, p + 3), (60, p + 2), (226, p + 6), (230, p + 4)]) := by
  have a := w_a (f := f) (d := 0) (p := p) (Or.inl h0) h1 h2 (by decide)
  have b := w_n (f := f) (d := 0) (p := p + 3) (Or.inl h3) h4 (by decide)
  have c := a_1 (t_c (p1 := p + 2) (p2 := p + 4) (by omega) a (by rw [h2]; rfl) b) (by rw [h4]; rfl)
  have m := a_1 (t_m (f := f + 3) (d := 0) (p := p + 5) (Or.inl h5) h6) (by rw [show p + 5 + 2 = p + 7 from rfl, h7]; rfl)
  have r := o_2 (p1 := p + 4) (p2 := p + 7) c (by rw [h4]; rfl) m (by rw [h7]; rfl)
  rw [h0, h2, h3, h4, h5] at r
  exact r
theorem pz_3 (h0 : kd p = 224) (h1 : kd (p + 1) = 2) (h2 : kd (p + 2) = 62) (h3 : kd (p + 3) = 3) (h4 : kd (p + 4) = 229) (h5 : kd (p + 5) = 228) (h6 : kd (p + 6) = 227) (h7 : kd (p + 7) = 2) (h8 : kd (p + 8) = 59) : pz kd (f + 6) 3 0 p = (true, p + 8, [(224, p + 1), (3, p + 3), (62, p + 2), (227, p + 7), (228, p + 5), (229, p + 4)]) := by
  have a := w_a (f := f) (d := 0) (p := p) (Or.inr (Or.inr h0)) h1 h2 (by decide)
  have b := w_n (f := f) (d := 0) (p := p + 3) (Or.inl h3) h4 (by decide)
  have c := t_c (p1 := p + 2) (p2 := p + 4) (by omega) a (by rw [h2]; rfl) b
  have m := t_n (f := f + 3) (d := 0) (p := p + 5) (by decide) h5 (t_m (f := f + 2) (d := 0 + 1) (p := p + 6) (Or.inr h6) h7)
  have e := a_2 (p1 := p + 4) (p2 := p + 8) c (by rw [h4]; rfl) m (by rw [h8]; rfl)
  have r := o_1 e (by rw [h8]; rfl)
  rw [h0, h2, h3, h4, h6] at r
  exact r
theorem pz_4 (h0 : kd p = 225) (h1 : kd (p + 1) = 40) (h2 : kd (p + 2) = 3) (h3 : kd (p + 3) = 41) (h4 : kd (p + 4) = 43) (h5 : kd (p + 5) = 223) (h6 : kd (p + 6) = 2) (h7 : kd (p + 7) = 47) (h8 : kd (p + 8) = 3) (h9 : kd (p + 9) = 129) (h10 : kd (p + 10) = 3) (h11 : kd (p + 11) = 59) : pz kd (f + 9) 3 0 p = (true, p + 11, [(3, p + 2), (225, p), (223, p + 6), (3, p + 8), (47, p + 7), (43, p + 4), (3, p + 10), (129, p + 9)]) := by
  have i := w_n (f := f) (d := 0 + 1) (p := p + 2) (Or.inl h2) h3 (by decide)
  have a := m_1 (v_r (f := f + 3) (d := 0) (p := p) (p1 := p + 3) (by decide) h0 h1 i h3) (by rw [show p + 3 + 1 = p + 4 from rfl, h4]; rfl)
  have v5 := v_a (f := f + 3) (d := 0) (p := p + 5) (Or.inr (Or.inl h5)) h6
  have v8 := v_n (f := f + 3) (d := 0) (p := p + 8) (Or.inl h8)
  have m := m_2 (p1 := p + 7) (p2 := p + 9) v5 (by rw [h7]; rfl) v8 (by rw [h9]; rfl)
  have s := s_2 (p1 := p + 4) (p2 := p + 9) a (by rw [h4]; rfl) m (by rw [h9]; rfl)
  have b := w_n (f := f + 3) (d := 0) (p := p + 10) (Or.inl h10) h11 (by decide)
  have c := o_1 (a_1 (t_c (p1 := p + 9) (p2 := p + 11) (by omega) s (by rw [h9]; rfl) b) (by rw [h11]; rfl)) (by rw [h11]; rfl)
  rw [h2, h4, h5, h7, h8, h9, h10] at c
  exact c
end Pz
