/-! the reference's second pass: small words -/
/-- what the second pass may change -/
def SFr (ad : Nat → Nat) (M M' : mS) : Prop := Fr (fun b => b = ad 70 ∨ b = ad 76 ∨ Bk ad 126 138 b) M M' ∧ (∀ i, i ≠ 9 → mI M' (ad 70) i = mI M (ad 70) i) ∧ ∀ i, i ≠ 0 → i ≠ 3 → i ≠ 4 → i ≠ 11 → mI M' (ad 126) i = mI M (ad 126) i
theorem SFr_rf {ad : Nat → Nat} {M : mS} : SFr ad M M := ⟨Fr_rf, fun _ _ => rfl, fun _ _ _ _ _ => rfl⟩
theorem SFr_tr {ad : Nat → Nat} {M M1 M2 : mS} (h : SFr ad M M1) (g : SFr ad M1 M2) : SFr ad M M2 := ⟨Fr_tr h.1 g.1, fun i a => (g.2.1 i a).trans (h.2.1 i a), fun i a b c d => (g.2.2 i a b c d).trans (h.2.2 i a b c d)⟩
section SecM
variable {G : gS} {ad : Nat → Nat} {M : mS} {T : Nat → Nat} {tl p : Nat} {C : List Int32} {O : List Nat} {ro : Nat → Nat} {W : List (Nat × Nat)}
theorem SFr_x (hA : Inj ad) {b i : Nat} {v : Int32} (h : b = 76 ∨ (127 ≤ b ∧ b < 138) ∨ (b = 126 ∧ (i = 0 ∨ i = 3 ∨ i = 4 ∨ i = 11)) ∨ (b = 70 ∧ i = 9)) : SFr ad M (wI M (ad b) i v) := by
  refine ⟨Fr_wI Fr_rf ?_, fun j h1 => wI_ne hA (by omega), fun j h1 h2 h3 h4 => wI_ne hA (by omega)⟩
  rcases h with rfl | h | ⟨rfl, _⟩ | ⟨rfl, _⟩
  · exact Or.inr (Or.inl rfl)
  · exact Or.inr (Or.inr (Bk_in (by omega) (by omega)))
  · exact Or.inr (Or.inr (Bk_in (by decide) (by decide)))
  · exact Or.inl rfl
theorem SF_out (hA : Inj ad) {k : Nat} (h : k ≠ 70) (h2 : k ≠ 76) (h3 : k < 126 ∨ 138 ≤ k) : ¬ (ad k = ad 70 ∨ ad k = ad 76 ∨ Bk ad 126 138 (ad k)) := by
  rintro (q | q | q)
  · exact h (hA _ _ q)
  · exact h2 (hA _ _ q)
  · exact Bk_out hA h3 q
/-- what is read at first stays, at the place where the pass stands -/
theorem ML_S (hA : Inj ad) {M' : mS} {q : Nat} (h : ML ad M T tl p C O ro W) (hF : SFr ad M M') (h9 : mI M' (ad 70) 9 = zn q) (hq : q ≤ nT T tl) : ML ad M' T tl q C O ro W := by
  obtain ⟨⟨⟨⟨a1, a2⟩, a3, a4⟩, ⟨b1, b2, b3⟩, ⟨c1, c2⟩, ⟨d1, d2⟩, e1⟩, w1, w2⟩ := h
  have k : ∀ b, b ≠ 70 → b ≠ 76 → (b < 126 ∨ 138 ≤ b) → mI M' (ad b) = mI M (ad b) := fun b x y z => hF.1.1 _ (SF_out hA x y z)
  refine ⟨⟨⟨⟨?_, fun j hj => ?_⟩, fun j hj => ?_, fun j hj => ?_⟩, ⟨h9, hq, ?_⟩, ⟨?_, fun j hj => ?_⟩, ⟨?_, fun j hj => ?_⟩, fun j hj => ?_⟩, ?_, fun j h1 h2 => ?_⟩
  · rw [hF.2.1 2 (by decide)]; exact a1
  · rw [k 71 (by decide) (by decide) (by decide)]; exact a2 j hj
  · rw [k 72 (by decide) (by decide) (by decide), k 73 (by decide) (by decide) (by decide)]; exact a3 j hj
  · rw [k 74 (by decide) (by decide) (by decide)]; exact a4 j hj
  · rw [hF.2.1 10 (by decide)]; exact b3
  · rw [hF.2.2 19 (by decide) (by decide) (by decide) (by decide)]; exact c1
  · rw [k 140 (by decide) (by decide) (by decide)]; exact c2 j hj
  · rw [hF.2.2 21 (by decide) (by decide) (by decide) (by decide)]; exact d1
  · rw [k 141 (by decide) (by decide) (by decide)]; exact d2 j hj
  · rw [k 75 (by decide) (by decide) (by decide)]; exact e1 j hj
  · rw [hF.2.2 12 (by decide) (by decide) (by decide) (by decide)]; exact w1
  · rw [k 138 (by decide) (by decide) (by decide), k 139 (by decide) (by decide) (by decide)]; exact w2 j h1 h2
theorem t_isIn {v a b : Nat} (hv : v < 2147483648) (ha : a < 2147483648) (hb : b < 2147483648) : m_X12_isIn G M (zn v) (zn a) (zn b) = some (M, if a ≤ v ∧ v ≤ b then 1 else 0) := by
  refine cl_eq ?_
  unfold m_X12_isIn m_X12_isIn_14
  refine c_if (fun g => ?_) (fun g => ?_)
  · rw [zn_lt hv ha] at g
    exact c_ck (Or.inl rfl) (c_some ⟨rfl, by rw [if_neg (by omega)]⟩)
  rw [zn_lt hv ha] at g
  refine c_if (fun g2 => ?_) (fun g2 => ?_)
  · rw [zn_lt hb hv] at g2
    exact c_ck (Or.inl rfl) (c_some ⟨rfl, by rw [if_neg (by omega)]⟩)
  · rw [zn_lt hb hv] at g2
    exact c_ck (Or.inr rfl) (c_some ⟨rfl, by rw [if_pos (by omega)]⟩)
theorem t_range (hS : Sh G ad) (htl : tl ≤ 2000) (hT : ∀ k, k < tl → T k < 256) (h : ML ad M T tl p C O ro W) {j a b : Nat} (hk : kdT T tl j = 3) (ha : a < 2147483648) (hb : b < 2147483648) : m_X12_inRange G M (ad 70) (zn j) (zn a) (zn b) = some (M, if a ≤ numT T tl j ∧ numT T tl j ≤ b then 0 else 5) := by
  have hn := (num_ok hk).2
  refine cl_eq ?_
  unfold m_X12_inRange
  rw [w_num hS htl h.1 hk hT]
  refine c_cl (c_some ?_)
  rw [t_isIn (by omega) ha hb]
  refine c_cl (c_some ?_)
  by_cases g : a ≤ numT T tl j ∧ numT T tl j ≤ b
  · rw [if_pos g, if_pos g]
    exact c_f (by decide) (c_some ⟨rfl, rfl⟩)
  · rw [if_neg g, if_neg g]
    exact c_t rfl (c_some ⟨rfl, rfl⟩)
theorem ML_MK (h : ML ad M T tl p C O ro W) : MK ad M T tl := h.1.1
/-- a name is looked for, and its number kept -/
theorem t_look (hA : Inj ad) (hS : Sh G ad) (htl : tl ≤ 2000) (hT : ∀ k, k < tl → T k < 256) (h : ML ad M T tl p C O ro W) (hro : ∀ j, ro j < 1000) {r j : Nat} (hr1 : r < 1000) (hk : ∀ i, i < j → ro i = r → kdT T tl i = 2) (hj : kdT T tl j = 2) {nm : Nat → Nat} {n : Nat} (hN : NmR T tl ro r j nm n) (hn6 : n < 1000) : p_cl (m_X12_look G M (ad 70) (zn j) (zn r)) (fun M' e => e = (if ixN nm (keyT T tl j) n 0 = none then 3 else 0) ∧ M' = wI M (ad 76) j (ixV (ixN nm (keyT T tl j) n 0))) := by
  have hn := nT_le (T := T) (tl := tl)
  have qj := kdT_lt (T := T) (tl := tl) (q := j) (by omega)
  have hlt : ∀ i, ixN nm (keyT T tl j) n 0 = some i → i < 1000 := fun i hi => by have := ixN_lt _ _ _ hi; omega
  unfold m_X12_look
  refine c_rf (sh_m8 hS) ?_
  rw [t_told hS htl hT (ML_MK h) h.1.2.2.2.2 hro hr1 hk hj hN]
  refine c_cl (c_some (c_ix (by rw [sh_mn8 hS]; exact zn_in (by omega) (by decide)) (c_wI (c_rf (sh_m8 hS) (c_ix (by rw [sh_mn8 hS]; exact zn_in (by omega) (by decide)) ?_)))))
  rw [zn_nat (show j < 2147483648 by omega), wI_eq]
  by_cases g : ixN nm (keyT T tl j) n 0 = none
  · rw [if_pos g, g]
    exact c_t rfl (c_some ⟨rfl, rfl⟩)
  · rw [if_neg g]
    refine c_f (fun q => ?_) (c_some ⟨rfl, rfl⟩)
    have h0 := (ixV_nn hlt).1.mpr g
    rw [q] at h0
    exact absurd h0 (by decide)
/-- a name that is to be new -/
theorem t_new (hS : Sh G ad) (htl : tl ≤ 2000) (hT : ∀ k, k < tl → T k < 256) (h : ML ad M T tl p C O ro W) (hro : ∀ j, ro j < 1000) {j : Nat} (hk : ∀ i, i < j → ro i = ro j → kdT T tl i = 2) (hj : kdT T tl j = 2) {nm : Nat → Nat} {n m : Nat} (hN : NmR T tl ro (ro j) j nm n) (hn6 : n < 1000) (hm : m < 1000) : m_X12_isNew G M (ad 70) (zn j) (zn n) (zn m) = some (M, if ixN nm (keyT T tl j) n 0 = none then (if n = m then 4 else 0) else 2) := by
  have hn := nT_le (T := T) (tl := tl)
  have qj := kdT_lt (T := T) (tl := tl) (q := j) (by omega)
  have hlt : ∀ i, ixN nm (keyT T tl j) n 0 = some i → i < 1000 := fun i hi => by have := ixN_lt _ _ _ hi; omega
  refine cl_eq ?_
  unfold m_X12_isNew
  refine c_rf (sh_m7 hS) (c_ix (by rw [sh_mn7 hS]; exact zn_in (by omega) (by decide)) ?_)
  rw [zn_nat (show j < 2147483648 by omega), h.1.2.2.2.2 j (by omega), t_told hS htl hT (ML_MK h) h.1.2.2.2.2 hro (hro j) hk hj hN]
  refine c_cl (c_some ?_)
  by_cases g : ixN nm (keyT T tl j) n 0 = none
  · rw [if_pos g, g]
    refine c_t rfl (c_if (fun q => ?_) (fun q => ?_))
    · rw [zn_inj (by omega) (by omega)] at q
      rw [if_pos q]
      exact c_some ⟨rfl, rfl⟩
    · rw [zn_inj (by omega) (by omega)] at q
      rw [if_neg q]
      exact c_some ⟨rfl, rfl⟩
  · rw [if_neg g]
    refine c_f (fun q => ?_) (c_some ⟨rfl, rfl⟩)
    have h0 := (ixV_nn hlt).1.mpr g
    rw [q] at h0
    exact absurd h0 (by decide)
end SecM
