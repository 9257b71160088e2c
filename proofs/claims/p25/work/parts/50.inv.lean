/-! everything that there is: objects, what they hold -/
def Sh (G : gS) (ad : Nat → Nat) : Prop := gP G (ad 0) 0 = some (ad 1) ∧ gP G (ad 0) 1 = some (ad 3) ∧ gP G (ad 0) 2 = some (ad 21) ∧ gP G (ad 0) 3 = some (ad 38) ∧ gP G (ad 0) 4 = some (ad 55) ∧ gP G (ad 0) 5 = some (ad 63) ∧ gP G (ad 1) 0 = some (ad 2) ∧ gN G (ad 2) = 2000 ∧ PSh G ad 3 ∧ PSh G ad 12 ∧ YSh G ad 21 ∧ YSh G ad 38 ∧ TSh G ad ∧ RSh G ad 64 ∧ gP G (ad 55) 0 = some (ad 58) ∧ gP G (ad 55) 1 = some (ad 12) ∧ gP G (ad 55) 2 = some (ad 38) ∧ gP G (ad 55) 3 = some (ad 56) ∧ gP G (ad 55) 4 = some (ad 57) ∧ gN G (ad 56) = 5 ∧ gN G (ad 57) = 6 ∧ gP G (ad 58) 0 = some (ad 1) ∧ gP G (ad 58) 1 = some (ad 59) ∧ gP G (ad 58) 2 = some (ad 60) ∧ gP G (ad 58) 3 = some (ad 61) ∧ gP G (ad 58) 4 = some (ad 62) ∧ gN G (ad 59) = 33 ∧ gN G (ad 60) = 401 ∧ gN G (ad 61) = 401 ∧ gN G (ad 62) = 401
theorem cl_eq {α : Type} {x : Option (mS × α)} {M : mS} {v : α} (h : p_cl x (fun M' r => M' = M ∧ r = v)) : x = some (M, v) := by
  obtain ⟨M1, r, e, rfl, rfl⟩ := h
  exact e
section ShapeAll
variable {G : gS} {ad : Nat → Nat}
theorem sh_x0 (h : Sh G ad) : gP G (ad 0) 0 = some (ad 1) := h.1
theorem sh_x1 (h : Sh G ad) : gP G (ad 0) 1 = some (ad 3) := h.2.1
theorem sh_x2 (h : Sh G ad) : gP G (ad 0) 2 = some (ad 21) := h.2.2.1
theorem sh_x3 (h : Sh G ad) : gP G (ad 0) 3 = some (ad 38) := h.2.2.2.1
theorem sh_x4 (h : Sh G ad) : gP G (ad 0) 4 = some (ad 55) := h.2.2.2.2.1
theorem sh_x5 (h : Sh G ad) : gP G (ad 0) 5 = some (ad 63) := h.2.2.2.2.2.1
theorem sh_t0 (h : Sh G ad) : gP G (ad 1) 0 = some (ad 2) := h.2.2.2.2.2.2.1
theorem sh_tn (h : Sh G ad) : gN G (ad 2) = 2000 := h.2.2.2.2.2.2.2.1
theorem sh_P3 (h : Sh G ad) : PSh G ad 3 := h.2.2.2.2.2.2.2.2.1
theorem sh_P12 (h : Sh G ad) : PSh G ad 12 := h.2.2.2.2.2.2.2.2.2.1
theorem sh_Y21 (h : Sh G ad) : YSh G ad 21 := h.2.2.2.2.2.2.2.2.2.2.1
theorem sh_Y38 (h : Sh G ad) : YSh G ad 38 := h.2.2.2.2.2.2.2.2.2.2.2.1
theorem sh_T (h : Sh G ad) : TSh G ad := h.2.2.2.2.2.2.2.2.2.2.2.2.1
theorem sh_R (h : Sh G ad) : RSh G ad 64 := h.2.2.2.2.2.2.2.2.2.2.2.2.2.1
theorem sh_q0 (h : Sh G ad) : gP G (ad 55) 0 = some (ad 58) := h.2.2.2.2.2.2.2.2.2.2.2.2.2.2.1
theorem sh_q1 (h : Sh G ad) : gP G (ad 55) 1 = some (ad 12) := h.2.2.2.2.2.2.2.2.2.2.2.2.2.2.2.1
theorem sh_q2 (h : Sh G ad) : gP G (ad 55) 2 = some (ad 38) := h.2.2.2.2.2.2.2.2.2.2.2.2.2.2.2.2.1
theorem sh_q3 (h : Sh G ad) : gP G (ad 55) 3 = some (ad 56) := h.2.2.2.2.2.2.2.2.2.2.2.2.2.2.2.2.2.1
theorem sh_q4 (h : Sh G ad) : gP G (ad 55) 4 = some (ad 57) := h.2.2.2.2.2.2.2.2.2.2.2.2.2.2.2.2.2.2.1
theorem sh_qn3 (h : Sh G ad) : gN G (ad 56) = 5 := h.2.2.2.2.2.2.2.2.2.2.2.2.2.2.2.2.2.2.2.1
theorem sh_qn4 (h : Sh G ad) : gN G (ad 57) = 6 := h.2.2.2.2.2.2.2.2.2.2.2.2.2.2.2.2.2.2.2.2.1
theorem sh_k0 (h : Sh G ad) : gP G (ad 58) 0 = some (ad 1) := h.2.2.2.2.2.2.2.2.2.2.2.2.2.2.2.2.2.2.2.2.2.1
theorem sh_k1 (h : Sh G ad) : gP G (ad 58) 1 = some (ad 59) := h.2.2.2.2.2.2.2.2.2.2.2.2.2.2.2.2.2.2.2.2.2.2.1
theorem sh_k2 (h : Sh G ad) : gP G (ad 58) 2 = some (ad 60) := h.2.2.2.2.2.2.2.2.2.2.2.2.2.2.2.2.2.2.2.2.2.2.2.1
theorem sh_k3 (h : Sh G ad) : gP G (ad 58) 3 = some (ad 61) := h.2.2.2.2.2.2.2.2.2.2.2.2.2.2.2.2.2.2.2.2.2.2.2.2.1
theorem sh_k4 (h : Sh G ad) : gP G (ad 58) 4 = some (ad 62) := h.2.2.2.2.2.2.2.2.2.2.2.2.2.2.2.2.2.2.2.2.2.2.2.2.2.1
theorem sh_kn1 (h : Sh G ad) : gN G (ad 59) = 33 := h.2.2.2.2.2.2.2.2.2.2.2.2.2.2.2.2.2.2.2.2.2.2.2.2.2.2.1
theorem sh_kn2 (h : Sh G ad) : gN G (ad 60) = 401 := h.2.2.2.2.2.2.2.2.2.2.2.2.2.2.2.2.2.2.2.2.2.2.2.2.2.2.2.1
theorem sh_kn3 (h : Sh G ad) : gN G (ad 61) = 401 := h.2.2.2.2.2.2.2.2.2.2.2.2.2.2.2.2.2.2.2.2.2.2.2.2.2.2.2.2.1
theorem sh_kn4 (h : Sh G ad) : gN G (ad 62) = 401 := h.2.2.2.2.2.2.2.2.2.2.2.2.2.2.2.2.2.2.2.2.2.2.2.2.2.2.2.2.2
end ShapeAll
/-- the words, by bytes; packed in 37s -/
def kw : List (List Nat) := [[114, 117, 108, 101], [108, 101, 102, 116], [114, 105, 103, 104, 116], [115, 116, 114, 97, 105, 103, 104, 116], [98, 97, 99, 107], [97, 110, 116], [111, 102], [97, 116], [102, 97, 99, 101, 115], [110, 111, 114, 116, 104], [101, 97, 115, 116], [115, 111, 117, 116, 104], [119, 101, 115, 116], [112, 97, 105, 110, 116], [119, 97, 115, 104], [116, 111], [102, 97, 99, 101], [104, 97, 108, 116], [119, 97, 108, 107], [119, 104, 101, 110], [115, 116, 101, 112], [100, 97, 114, 107], [97, 99, 114, 111, 115, 115], [100, 111, 119, 110], [112, 101, 114, 105, 111, 100], [114, 111, 119], [109, 101, 101, 116, 115], [104, 97, 108, 116, 101, 100], [110, 111, 116], [97, 110, 100], [111, 114], [109, 105, 110], [109, 97, 120]]
def kwB (w : Nat) : List Nat := kw.getD w []
def cv (c : Nat) : Nat := if 97 ≤ c then c - 96 else c - 21
def pkL : List Nat → Nat → Nat
  | [], p => p
  | c :: L, p => pkL L (p * 37 + cv c)
def pk (L : List Nat) : Nat := pkL L 0
def wdJ (w : Nat) : Int64 := Int64.ofNat (pk (kwB w))
/-- what the class holds, what the reference holds -/
def CA (ad : Nat → Nat) (M : mS) (Y : aY) (P : aP) (T : Nat → Nat) (tl : Nat) (ea : Int32) : Prop := cY ad M 21 Y ∧ cP ad M 3 P ∧ mI M (ad 1) 1 = zn tl ∧ (∀ k, k < tl → mI M (ad 2) k = zn (T k)) ∧ (∀ w, w < 33 → mJ M (ad 59) w = wdJ w) ∧ mI M (ad 0) 6 = ea
section AllKeep
variable {ad : Nat → Nat} {M M' : mS} {Y Y' : aY} {P : aP} {T : Nat → Nat} {tl : Nat} {ea : Int32}
theorem cY_keep {y : Nat} (hn : yd_n Y ≤ 6) (h : cY ad M y Y) (hF : ∀ k, y ≤ k → k < y + 17 → mI M' (ad k) = mI M (ad k)) : cY ad M' y Y := by
  refine ⟨?_, ?_, fun i hi => cA_kept (h.2.2 i hi) (hF _ (by omega) (by omega)) (hF _ (by omega) (by omega))⟩
  · unfold cYc
    rw [hF (y + 1) (by omega) (by omega), hF (y + 2) (by omega) (by omega), hF (y + 3) (by omega) (by omega)]
    exact h.1
  · unfold cYf
    rw [hF y (by omega) (by omega)]
    exact h.2.1
theorem CA_y (h : CA ad M Y P T tl ea) (hc : cY ad M' 21 Y') (hI : ∀ k, k < 12 → mI M' (ad k) = mI M (ad k)) (hJ : mJ M' (ad 59) = mJ M (ad 59)) : CA ad M' Y' P T tl ea := by
  obtain ⟨h1, h2, h3, h4, h5, h6⟩ := h
  refine ⟨hc, cP_keep h2 (fun k k1 k2 => hI k (by omega)), ?_, ?_, ?_, ?_⟩
  · rw [hI 1 (by decide)]; exact h3
  · rw [hI 2 (by decide)]; exact h4
  · rw [hJ]; exact h5
  · rw [hI 0 (by decide)]; exact h6
theorem CA_keep (hn : yd_n Y ≤ 6) (h : CA ad M Y P T tl ea) (hI : ∀ k, k < 12 ∨ (21 ≤ k ∧ k < 38) → mI M' (ad k) = mI M (ad k)) (hJ : mJ M' (ad 59) = mJ M (ad 59)) : CA ad M' Y P T tl ea := CA_y h (cY_keep hn h.1 (fun k k1 k2 => hI k (by omega))) (fun k hk => hI k (Or.inl hk)) hJ
theorem CA_Fr (hA : Inj ad) {lo hi : Nat} (hn : yd_n Y ≤ 6) (h : CA ad M Y P T tl ea) (hF : Fr (Bk ad lo hi) M M') (hd : 60 ≤ lo) : CA ad M' Y P T tl ea := CA_keep hn h (fun k hk => Fr_I hA hF (by omega)) (Fr_J hA hF (by omega))
end AllKeep
/-! numbers that are given: in range or not -/
theorem in_ex {v : Int32} {n : Nat} (h : vp_in v n) : ∃ a, a < n ∧ a < 2147483648 ∧ v = zn a := by
  have h0 : ¬ v < 0 := fun q => h (Or.inl q)
  obtain ⟨a, ha, rfl⟩ := I32_nat h0
  refine ⟨a, ?_, ha, rfl⟩
  have h1 : ¬ n ≤ (zn a).toNatClampNeg := fun q => h (Or.inr q)
  rw [zn_nat ha] at h1
  omega
theorem in_not {v : Int32} {n : Nat} (hn : n < 2147483648) (h : ¬ vp_in v n) : v < 0 ∨ zn n ≤ v := by
  by_cases h0 : v < 0
  · exact Or.inl h0
  · obtain ⟨a, ha, rfl⟩ := I32_nat h0
    refine Or.inr ((zn_le hn ha).mpr ?_)
    by_cases q : n ≤ a
    · exact q
    · exact absurd (zn_in (by omega) (by omega)) h
section Tests
variable {G : gS} {ad : Nat → Nat} {M : mS} {v w : Int32}
theorem c_isLine_t (h : vp_in v 64) : m_X9_isLine G M v = some (M, 1) := by
  obtain ⟨a, h1, h2, rfl⟩ := in_ex h
  refine cl_eq ?_
  unfold m_X9_isLine
  exact c_f (zn_nn h2) (c_f (by rw [show (64 : Int32) = zn 64 from rfl, zn_le (by omega) h2]; omega) (c_ck (Or.inr rfl) (c_some ⟨rfl, rfl⟩)))
theorem c_isLine_f (h : ¬ vp_in v 64) : m_X9_isLine G M v = some (M, 0) := by
  refine cl_eq ?_
  unfold m_X9_isLine m_X9_isLine_14
  exact c_if (fun q => c_ck (Or.inl rfl) (c_some ⟨rfl, rfl⟩)) (fun q => c_t ((in_not (n := 64) (by decide) h).resolve_left q) (c_ck (Or.inl rfl) (c_some ⟨rfl, rfl⟩)))
theorem c_isColour_t (h : vp_in v 6) : m_X9_isColour G M v = some (M, 1) := by
  obtain ⟨a, h1, h2, rfl⟩ := in_ex h
  refine cl_eq ?_
  unfold m_X9_isColour
  exact c_f (zn_nn h2) (c_f (by rw [show (6 : Int32) = zn 6 from rfl, zn_le (by omega) h2]; omega) (c_ck (Or.inr rfl) (c_some ⟨rfl, rfl⟩)))
theorem c_isColour_f (h : ¬ vp_in v 6) : m_X9_isColour G M v = some (M, 0) := by
  refine cl_eq ?_
  unfold m_X9_isColour m_X9_isColour_14
  exact c_if (fun q => c_ck (Or.inl rfl) (c_some ⟨rfl, rfl⟩)) (fun q => c_t ((in_not (n := 6) (by decide) h).resolve_left q) (c_ck (Or.inl rfl) (c_some ⟨rfl, rfl⟩)))
theorem c_isStone_t (h : vp_in v 64) (g : vp_in w 64) : m_X9_isStone G M v w = some (M, 1) := by
  refine cl_eq ?_
  unfold m_X9_isStone
  rw [c_isLine_t h]
  refine c_cl (c_some (c_f (by decide) ?_))
  rw [c_isLine_t g]
  exact c_cl (c_some (c_f (by decide) (c_ck (Or.inr rfl) (c_some ⟨rfl, rfl⟩))))
theorem c_isStone_f (h : ¬ (vp_in v 64 ∧ vp_in w 64)) : m_X9_isStone G M v w = some (M, 0) := by
  refine cl_eq ?_
  unfold m_X9_isStone m_X9_isStone_18
  by_cases h1 : vp_in v 64
  · rw [c_isLine_t h1]
    refine c_cl (c_some (c_f (by decide) ?_))
    rw [c_isLine_f (fun q => h ⟨h1, q⟩)]
    exact c_cl (c_some (c_t rfl (c_ck (Or.inl rfl) (c_some ⟨rfl, rfl⟩))))
  · rw [c_isLine_f h1]
    exact c_cl (c_some (c_t rfl (c_ck (Or.inl rfl) (c_some ⟨rfl, rfl⟩))))
theorem c_isAnt_t (hS : Sh G ad) {n : Nat} (h4 : mI M (ad 21) 4 = zn n) (hn : n ≤ 6) (h : vp_in v n) : m_X9_isAnt G M (ad 0) v = some (M, 1) := by
  obtain ⟨a, h1, h2, rfl⟩ := in_ex h
  refine cl_eq ?_
  unfold m_X9_isAnt
  refine c_f (zn_nn h2) (c_rf (sh_x2 hS) ?_)
  rw [h4]
  exact c_f (by rw [zn_le (by omega) h2]; omega) (c_ck (Or.inr rfl) (c_some ⟨rfl, rfl⟩))
theorem c_isAnt_f (hS : Sh G ad) {n : Nat} (h4 : mI M (ad 21) 4 = zn n) (hn : n ≤ 6) (h : ¬ vp_in v n) : m_X9_isAnt G M (ad 0) v = some (M, 0) := by
  refine cl_eq ?_
  unfold m_X9_isAnt m_X9_isAnt_19
  refine c_if (fun q => c_ck (Or.inl rfl) (c_some ⟨rfl, rfl⟩)) (fun q => c_rf (sh_x2 hS) ?_)
  rw [h4]
  exact c_t ((in_not (n := n) (by omega) h).resolve_left q) (c_ck (Or.inl rfl) (c_some ⟨rfl, rfl⟩))
end Tests
