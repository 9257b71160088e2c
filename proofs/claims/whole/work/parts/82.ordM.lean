/-! the reference's parser: orders' lines, and all lines -/
def ML (ad : Nat → Nat) (M : mS) (T : Nat → Nat) (tl p : Nat) (C : List Int32) (O : List Nat) (ro : Nat → Nat) (W : List (Nat × Nat)) : Prop := MR ad M T tl p 0 C O ro ∧ mI M (ad 126) 12 = zn W.length ∧ ∀ k, k < W.length → k < 20 → mI M (ad 138) k = zn (W.getD k (0, 0)).1 ∧ mI M (ad 139) k = zn (W.getD k (0, 0)).2
def LFr (ad : Nat → Nat) (M M' : mS) : Prop := Fr (fun b => NF ad b ∨ Bk ad 138 140 b) M M' ∧ (∀ i, i ≠ 9 → i ≠ 10 → mI M' (ad 70) i = mI M (ad 70) i) ∧ ∀ i, i ≠ 12 → i ≠ 19 → i ≠ 21 → mI M' (ad 126) i = mI M (ad 126) i
theorem LFr_N {ad : Nat → Nat} {M M' : mS} (h : NFr ad M M') : LFr ad M M' := ⟨Fr_mono h.1 (fun _ q => Or.inl q), h.2.1, fun i _ b c => h.2.2 i b c⟩
theorem LFr_rf {ad : Nat → Nat} {M : mS} : LFr ad M M := LFr_N NFr_rf
theorem LFr_tr {ad : Nat → Nat} {M M1 M2 : mS} (h : LFr ad M M1) (g : LFr ad M1 M2) : LFr ad M M2 := ⟨Fr_tr h.1 g.1, fun i a b => (g.2.1 i a b).trans (h.2.1 i a b), fun i a b c => (g.2.2 i a b c).trans (h.2.2 i a b c)⟩
section OrdM
variable {G : gS} {ad : Nat → Nat} {T : Nat → Nat} {tl : Nat}
theorem MR_x (hA : Inj ad) {M : mS} {p d : Nat} {C : List Int32} {O : List Nat} {ro : Nat → Nat} (h : MR ad M T tl p d C O ro) {b i : Nat} {v : Int32} (hb : b = 138 ∨ b = 139 ∨ (b = 126 ∧ i = 12)) : MR ad (wI M (ad b) i v) T tl p d C O ro ∧ LFr ad M (wI M (ad b) i v) := by
  obtain ⟨⟨⟨a1, a2⟩, a3, a4⟩, ⟨b1, b2, b3⟩, ⟨c1, c2⟩, ⟨d1, d2⟩, e1⟩ := h
  refine ⟨⟨⟨⟨?_, fun k hk => ?_⟩, fun j hj => ?_, fun j hj => ?_⟩, ⟨?_, b2, ?_⟩, ⟨?_, fun j hj => ?_⟩, ⟨?_, fun j hj => ?_⟩, fun j hj => ?_⟩, Fr_wI Fr_rf ?_, fun i _ _ => ?_, fun i h1 h2 h3 => ?_⟩
  · rw [wI_ne hA (Or.inl (by omega))]; exact a1
  · rw [wI_ne hA (Or.inl (by omega))]; exact a2 k hk
  · rw [wI_ne hA (Or.inl (by omega)), wI_ne hA (Or.inl (by omega))]; exact a3 j hj
  · rw [wI_ne hA (Or.inl (by omega))]; exact a4 j hj
  · rw [wI_ne hA (Or.inl (by omega))]; exact b1
  · rw [wI_ne hA (Or.inl (by omega))]; exact b3
  · rw [wI_ne hA (by omega)]; exact c1
  · rw [wI_ne hA (Or.inl (by omega))]; exact c2 j hj
  · rw [wI_ne hA (by omega)]; exact d1
  · rw [wI_ne hA (Or.inl (by omega))]; exact d2 j hj
  · rw [wI_ne hA (Or.inl (by omega))]; exact e1 j hj
  · rcases hb with rfl | rfl | ⟨rfl, rfl⟩
    · exact Or.inr (Bk_in (by decide) (by decide))
    · exact Or.inr (Bk_in (by decide) (by decide))
    · exact Or.inl (Or.inr (Or.inr (Or.inl rfl)))
  · exact wI_ne hA (Or.inl (by omega))
  · exact wI_ne hA (by omega)
theorem ML_N (hA : Inj ad) {M M' : mS} {p q : Nat} {C C' : List Int32} {O O' : List Nat} {ro ro' : Nat → Nat} {W : List (Nat × Nat)} (h : ML ad M T tl p C O ro W) (hF : NFr ad M M') (h' : MR ad M' T tl q 0 C' O' ro') : ML ad M' T tl q C' O' ro' W := by
  refine ⟨h', ?_, fun k h1 h2 => ?_⟩
  · rw [hF.2.2 12 (by decide) (by decide)]; exact h.2.1
  · have no : ∀ b, b = 138 ∨ b = 139 → ¬ NF ad (ad b) := by
      rintro b hb (q | q | q | q)
      · have := hA _ _ q; omega
      · have := hA _ _ q; omega
      · have := hA _ _ q; omega
      · exact Bk_out hA (by omega) q
    rw [hF.1.1 _ (no 138 (by decide)), hF.1.1 _ (no 139 (by decide))]
    exact h.2.2 k h1 h2
/-- what the reading of an order comes to: L its operations -/
def PostO (ad : Nat → Nat) (T : Nat → Nat) (tl : Nat) (C : List Int32) (O : List Nat) (ro : Nat → Nat) (W : List (Nat × Nat)) (L : List sO) (M : mS) (x : Option (mS × Int32)) (r : Bool × Nat) : Prop := p_cl x (fun M' v => LFr ad M M' ∧ (r.1 = true → v = 1 ∧ ML ad M' T tl r.2 (C ++ enT T tl L) (O ++ opT T tl C.length L) (roL L ro) (W ++ [(C.length, (C ++ enT T tl L).length)])) ∧ (r.1 = false → v = 0 ∧ ∃ d' C' O' ro', MR ad M' T tl r.2 d' C' O' ro'))
theorem PO_no {M M' : mS} {C : List Int32} {O : List Nat} {ro : Nat → Nat} {W : List (Nat × Nat)} {L : List sO} {q d' : Nat} {C' : List Int32} {O' : List Nat} {ro' : Nat → Nat} (h : MR ad M' T tl q d' C' O' ro') (hF : LFr ad M M') : PostO ad T tl C O ro W L M (o_ck ((0 : Int32) = 0 ∨ (0 : Int32) = 1) (some (M', (0 : Int32)))) (false, q) := c_ck (Or.inl rfl) (c_some ⟨hF, fun g => absurd (show false = true from g) (by decide), fun _ => ⟨rfl, _, _, _, _, h⟩⟩)
def wx (W : List (Nat × Nat)) : Nat := if 20 < W.length then 20 else W.length
/-- when, and a test -/
theorem w_when (hA : Inj ad) (hS : Sh G ad) (hq : gP G (ad 70) 12 = some (ad 126)) (hL : LSh G ad 126) (htl : tl ≤ 2000) (hT : ∀ k, k < tl → T k < 256) {M0 M : mS} {q : Nat} {C : List Int32} {O : List Nat} {ro : Nat → Nat} {W : List (Nat × Nat)} (h : MR ad M T tl q 0 C O ro) (hC : C.length ≤ 2 * q) (hO : O.length ≤ q) (hW : mI M (ad 126) 12 = zn (W.length + 1)) (hW2 : ∀ k, k < W.length → k < 20 → mI M (ad 138) k = zn (W.getD k (0, 0)).1 ∧ mI M (ad 139) k = zn (W.getD k (0, 0)).2) (hF : LFr ad M0 M) : PostO ad T tl C O ro W (pTest T tl (q + 1)).2.2 M0 (m_X12_isOrderLine_165 G (ad 70) M (zn (wx W)) 1) (pThen T tl (pPre (kdT T tl) [eQ 219] q)) := by
  have hn := nT_le (T := T) (tl := tl)
  have hx : wx W < 21 := by unfold wx; split <;> omega
  unfold m_X12_isOrderLine_165 m_X12_isOrderLine_181
  refine c_f (by decide) (w_etC hA hS h (t := 219) (vK_w (by decide)) (by decide) (by decide) (fun k M1 h1 f1 => ?_) (fun k M1 h1 f1 => ?_))
  rotate_left
  · rw [pPre, if_neg (fun e => k (eQ_t.mp e))]
    exact c_t rfl (PO_no h1 (LFr_tr hF (LFr_N f1)))
  have hlt := kdT_lt (T := T) (tl := tl) (q := q) (by omega)
  rw [pPre, if_pos (eQ_t.mpr k), pPre]
  unfold pThen
  rw [if_pos (show (true, q + 1).1 = true from rfl)]
  refine c_f (by decide) (c_rf hq (c_rf (l16 hL) (c_rf hq (c_ix (by rw [ln12 hL]; exact zn_in hx (by decide)) (c_wI ?_)))))
  rw [zn_nat (by omega), h1.2.2.1.1]
  obtain ⟨h2, f2⟩ := MR_x hA h1 (b := 126 + 12) (i := wx W) (v := zn C.length) (Or.inl rfl)
  have g2 : mI (wI M1 (ad (126 + 12)) (wx W) (zn C.length)) (ad 138) (wx W) = zn C.length := wI_eq
  have g2' : ∀ j, j ≠ wx W → mI (wI M1 (ad (126 + 12)) (wx W) (zn C.length)) (ad 138) j = mI M1 (ad 138) j := fun j hj => wI_ne hA (Or.inr hj)
  have g2'' : mI (wI M1 (ad (126 + 12)) (wx W) (zn C.length)) (ad 139) = mI M1 (ad 139) := funext fun j => wI_ne hA (Or.inl (by decide))
  have g12 : mI (wI M1 (ad (126 + 12)) (wx W) (zn C.length)) (ad 126) 12 = mI M1 (ad 126) 12 := wI_ne hA (Or.inl (by decide))
  generalize wI M1 (ad (126 + 12)) (wx W) (zn C.length) = M2 at h2 f2 g2 g2' g2'' g12 ⊢
  refine c_clm (w_test hA hS hq hL htl hT M2 C O ro (q + 1) h2 (by omega) (by omega)) ?_
  rintro M3 v ⟨f3, t3, n3⟩
  show p_cl _ (fun M' v => LFr ad M0 M' ∧ ((pTest T tl (q + 1)).1 = true → v = 1 ∧ ML ad M' T tl (pTest T tl (q + 1)).2.1 _ _ _ _) ∧ ((pTest T tl (q + 1)).1 = false → v = 0 ∧ ∃ d' C' O' ro', MR ad M' T tl (pTest T tl (q + 1)).2.1 d' C' O' ro'))
  have F3 := LFr_tr hF (LFr_tr (LFr_N f1) (LFr_tr f2 (LFr_N f3)))
  cases e : (pTest T tl (q + 1)).1
  · obtain ⟨rfl, d', C', O', ro', h3⟩ := n3 e
    exact c_t rfl (c_ck (Or.inl rfl) (c_some ⟨F3, fun g => absurd g (by decide), fun _ => ⟨rfl, _, _, _, _, h3⟩⟩))
  · obtain ⟨rfl, h3⟩ := t3 e
    refine c_f (by decide) (c_rf hq (c_rf (l17 hL) (c_rf hq (c_ix (by rw [ln13 hL]; exact zn_in hx (by decide)) (c_wI (c_ck (Or.inr rfl) (c_some ?_)))))))
    rw [h3.2.2.1.1]
    obtain ⟨h4, f4⟩ := MR_x hA h3 (b := 126 + 13) (i := wx W) (v := zn (C ++ enT T tl (pTest T tl (q + 1)).2.2).length) (Or.inr (Or.inl rfl))
    refine ⟨LFr_tr F3 f4, fun _ => ⟨rfl, h4, ?_, fun k h5 h6 => ?_⟩, fun g => absurd g (by decide)⟩
    · rw [wI_ne hA (Or.inl (by decide)), f3.2.2 12 (by decide) (by decide), List.length_append, g12, f1.2.2 12 (by decide) (by decide), hW]
      rfl
    · rw [List.length_append] at h5
      have h5 : k < W.length + 1 := h5
      have no : ∀ b, b = 138 ∨ b = 139 → ¬ NF ad (ad b) := by
        rintro b hb (q | q | q | q)
        · have := hA _ _ q; omega
        · have := hA _ _ q; omega
        · have := hA _ _ q; omega
        · exact Bk_out hA (by omega) q
      rw [wI_ne hA (show (138 : Nat) ≠ 126 + 13 ∨ k ≠ wx W from Or.inl (by decide)), f3.1.1 _ (no 138 (Or.inl rfl))]
      by_cases e5 : k = W.length
      · have ex : wx W = k := by unfold wx; rw [if_neg (by omega), e5]
        have eg : (W ++ [(C.length, (C ++ enT T tl (pTest T tl (q + 1)).2.2).length)]).getD k (0, 0) = (C.length, (C ++ enT T tl (pTest T tl (q + 1)).2.2).length) := by
          rw [e5]
          exact getD_app (a := W) (b := [(C.length, (C ++ enT T tl (pTest T tl (q + 1)).2.2).length)]) (j := 0) (d := (0, 0))
        rw [eg]
        rw [ex] at g2 ⊢
        exact ⟨g2, wI_eq⟩
      · have ex : k ≠ wx W := by unfold wx; split <;> omega
        have hlt2 : k < W.length := by omega
        have eg : (W ++ [(C.length, (C ++ enT T tl (pTest T tl (q + 1)).2.2).length)]).getD k (0, 0) = W.getD k (0, 0) := by
          simp [List.getD, List.getElem?_append_left hlt2]
        rw [eg, wI_ne hA (show (139 : Nat) ≠ 126 + 13 ∨ k ≠ wx W from Or.inr ex), g2' k ex, f3.1.1 _ (no 139 (Or.inr rfl)), g2'', f1.1.1 _ (no 138 (Or.inl rfl)), f1.1.1 _ (no 139 (Or.inr rfl))]
        exact hW2 k hlt2 h6
/-- the roles of an order's head -/
def roOrd (kd : Nat → Nat) (p : Nat) (r : Nat → Nat) : Nat → Nat := fun j => if j = p then 9 else if kd p = 214 then (if j = p + 1 then 10 else if j = p + 3 then 11 else r j) else if j = p + 1 then 12 else if kd p = 216 ∧ j = p + 2 then 13 else r j
/-- the operations of a line -/
def lnL (T : Nat → Nat) (tl p : Nat) : List sO := if kdT T tl p = 214 then (pTest T tl (p + 5)).2.2 else if kdT T tl p = 216 then (pTest T tl (p + 4)).2.2 else (pTest T tl (p + 3)).2.2
def pOrdL (T : Nat → Nat) (tl p : Nat) : Bool × Nat := if kdT T tl p = 214 then pThen T tl (pPre (kdT T tl) washQ (p + 1)) else if kdT T tl p = 216 then pThen T tl (pPre (kdT T tl) faceQ (p + 1)) else pThen T tl (pPre (kdT T tl) haltQ (p + 1))
theorem w_order (hA : Inj ad) (hS : Sh G ad) (hq : gP G (ad 70) 12 = some (ad 126)) (hL : LSh G ad 126) (htl : tl ≤ 2000) (hT : ∀ k, k < tl → T k < 256) {M : mS} {p : Nat} {C : List Int32} {O : List Nat} {ro : Nat → Nat} {W : List (Nat × Nat)} (h : ML ad M T tl p C O ro W) (hC : C.length ≤ 2 * p) (hO : O.length ≤ p) (hW : W.length ≤ p) (hk : kdT T tl p = 214 ∨ kdT T tl p = 216 ∨ kdT T tl p = 217 ∨ kdT T tl p = 218) : PostO ad T tl C O (roOrd (kdT T tl) p ro) W (lnL T tl p) M (m_X12_isOrderLine_42 G (ad 70) M (if kdT T tl p = 214 then 1 else 0) (if kdT T tl p = 216 then 1 else 0)) (pOrdL T tl p) := by
  have hn := nT_le (T := T) (tl := tl)
  have hlt := kdT_lt (T := T) (tl := tl) (q := p) (by omega)
  obtain ⟨h1, h2, h3⟩ := h
  unfold m_X12_isOrderLine_42
  rw [h1.2.1.1]
  refine c_rf (sh_m7 hS) (c_ix (by rw [sh_mn7 hS]; exact zn_in (by omega) (by decide)) (c_wI ?_))
  rw [zn_nat (by omega)]
  have h4 := MR_ro hA h1 (t := p) (r := 9)
  have f4 : NFr ad M (wI M (ad 75) p (zn 9)) := NFr_x hA (Or.inl rfl)
  have w4 : ML ad (wI M (ad 75) p (zn 9)) T tl p C O _ W := ML_N hA ⟨h1, h2, h3⟩ f4 h4
  show p_cl (o_wI (wI M (ad 75) p (zn 9)) (ad 70) 9 (mI (wI M (ad 75) p (zn 9)) (ad 70) 9 + 1) _) _
  generalize wI M (ad 75) p (zn 9) = M1 at h4 f4 w4 ⊢
  obtain ⟨h5, f5⟩ := MR_nx hA h4 hlt
  have w5 := ML_N hA w4 f5 h5
  refine c_wI (c_rf hq ?_)
  generalize wI M1 (ad 70) 9 (mI M1 (ad 70) 9 + 1) = M2 at h5 f5 w5 ⊢
  rw [w5.2.1]
  have ex : (if (20 : Int32) < zn W.length then (20 : Int32) else zn W.length) = zn (wx W) := by
    unfold wx
    by_cases g : 20 < W.length
    · rw [if_pos g, if_pos (by rw [show (20 : Int32) = zn 20 from rfl, zn_lt (by omega) (by omega)]; exact g)]
      rfl
    · rw [if_neg g, if_neg (by rw [show (20 : Int32) = zn 20 from rfl, zn_lt (by omega) (by omega)]; exact g)]
  rw [ex]
  refine c_bd (c_rf hq ?_)
  rw [w5.2.1, zn_one]
  refine c_wI ?_
  obtain ⟨h6, f6⟩ := MR_x hA h5 (b := 126) (i := 12) (v := zn (W.length + 1)) (Or.inr (Or.inr ⟨rfl, rfl⟩))
  have g6 : mI (wI M2 (ad 126) 12 (zn (W.length + 1))) (ad 126) 12 = zn (W.length + 1) := wI_eq
  have g6' : ∀ k, k < W.length → k < 20 → mI (wI M2 (ad 126) 12 (zn (W.length + 1))) (ad 138) k = zn (W.getD k (0, 0)).1 ∧ mI (wI M2 (ad 126) 12 (zn (W.length + 1))) (ad 139) k = zn (W.getD k (0, 0)).2 := fun k a b => by
    rw [wI_ne hA (Or.inl (by decide)), wI_ne hA (Or.inl (by decide))]
    exact w5.2.2 k a b
  generalize wI M2 (ad 126) 12 (zn (W.length + 1)) = M3 at h6 f6 g6 g6' ⊢
  have F3 := LFr_tr (LFr_N f4) (LFr_tr (LFr_N f5) f6)
  -- what lies at the orders stays as the head is read on
  have keep : ∀ {M' : mS}, NFr ad M3 M' → mI M' (ad 126) 12 = zn (W.length + 1) ∧ ∀ k, k < W.length → k < 20 → mI M' (ad 138) k = zn (W.getD k (0, 0)).1 ∧ mI M' (ad 139) k = zn (W.getD k (0, 0)).2 := fun hF => by
    have no : ∀ b, b = 138 ∨ b = 139 → ¬ NF ad (ad b) := by
      rintro b hb (q | q | q | q)
      · have := hA _ _ q; omega
      · have := hA _ _ q; omega
      · have := hA _ _ q; omega
      · exact Bk_out hA (by omega) q
    refine ⟨by rw [hF.2.2 12 (by decide) (by decide)]; exact g6, fun k a b => ?_⟩
    rw [hF.1.1 _ (no 138 (Or.inl rfl)), hF.1.1 _ (no 139 (Or.inr rfl))]
    exact g6' k a b
  have fin : ∀ {M' : mS} {q : Nat} {r1 : Nat → Nat}, NFr ad M3 M' → MR ad M' T tl q 0 C O r1 → p ≤ q → (∀ j, roOrd (kdT T tl) p ro j = r1 j) → PostO ad T tl C O (roOrd (kdT T tl) p ro) W (pTest T tl (q + 1)).2.2 M (m_X12_isOrderLine_165 G (ad 70) M' (zn (wx W)) 1) (pThen T tl (pPre (kdT T tl) [eQ 219] q)) := fun hF hM hpq he => by
    obtain ⟨k1, k2⟩ := keep hF
    exact w_when hA hS hq hL htl hT (MR_co hM he) (by omega) (by omega) k1 k2 (LFr_tr F3 (LFr_N hF))
  unfold pOrdL lnL
  by_cases k214 : kdT T tl p = 214
  · rw [if_pos k214, if_neg (show ¬ kdT T tl p = 216 by omega), if_pos k214, if_pos k214]
    unfold washQ
    refine c_f (by decide) (w_eaC hA hS h6 (t := 3) (r0 := 10) (by unfold vK; decide) (by decide) (by decide) rfl (fun k M4 h7 f7 => ?_) (fun k M4 h7 f7 => ?_))
    rotate_left
    · rw [pPre, if_neg (fun q => k (eQ_t.mp q))]
      exact c_t rfl (PO_no h7 (LFr_tr F3 (LFr_N f7)))
    rw [pPre, if_pos (eQ_t.mpr k)]
    refine c_f (by decide) (w_etC hA hS h7 (t := 215) (vK_w (by decide)) (by decide) (by decide) (fun k M5 h8 f8 => ?_) (fun k M5 h8 f8 => ?_))
    rotate_left
    · rw [pPre, if_neg (fun q => k (eQ_t.mp q))]
      exact c_t rfl (PO_no h8 (LFr_tr F3 (LFr_N (NFr_tr f7 f8))))
    rw [pPre, if_pos (eQ_t.mpr k)]
    refine c_f (by decide) (w_eaC hA hS h8 (t := 3) (r0 := 11) (by unfold vK; decide) (by decide) (by decide) rfl (fun k M6 h9 f9 => ?_) (fun k M6 h9 f9 => ?_))
    rotate_left
    · rw [pPre, if_neg (fun q => k (eQ_t.mp q))]
      exact c_t rfl (PO_no h9 (LFr_tr F3 (LFr_N (NFr_tr f7 (NFr_tr f8 f9)))))
    rw [pPre, if_pos (eQ_t.mpr k)]
    refine c_f (by decide) (fin (NFr_tr f7 (NFr_tr f8 f9)) h9 (by omega) (fun j => ?_))
    unfold roOrd
    rw [if_pos k214]
    (repeat' split) <;> omega
  · rw [if_neg k214, if_neg k214, if_neg k214]
    have hd : ∀ {α : Type} {K : mS → Int32 → Option (mS × α)} {Q : mS → α → Prop}, (kdT T tl (p + 1) = 2 → ∀ M', MR ad M' T tl (p + 1 + 1) 0 C O (fun j => if j = p + 1 then 12 else if j = p then 9 else ro j) → NFr ad M3 M' → p_cl (K M' 1) Q) → (kdT T tl (p + 1) ≠ 2 → ∀ M', MR ad M' T tl (p + 1) 0 C O (fun j => if j = p + 1 then 12 else if j = p then 9 else ro j) → NFr ad M3 M' → p_cl (K M' 0) Q) → p_cl (o_cl (m_X12_eatAs G M3 (ad 70) 40 12) K) Q := fun H1 H2 => w_eaC hA hS h6 (t := 2) (r0 := 12) (by unfold vK; decide) (by decide) (by decide) rfl H1 H2
    refine c_t rfl ?_
    by_cases k216 : kdT T tl p = 216
    · rw [if_pos k216, if_pos k216, if_pos k216]
      unfold faceQ
      refine hd (fun k M4 h7 f7 => ?_) (fun k M4 h7 f7 => ?_)
      rotate_left
      · rw [pPre, if_neg (fun q => k (eQ_t.mp q))]
        exact c_t rfl (PO_no h7 (LFr_tr F3 (LFr_N f7)))
      rw [pPre, if_pos (eQ_t.mpr k)]
      refine c_f (by decide) (c_f (by decide) (w_e1C hA hS h7 (a := 9) (b := 12) (r0 := 13) (by decide) (by decide) rfl rfl rfl (fun k M5 h8 f8 => ?_) (fun k M5 h8 f8 => ?_)))
      rotate_left
      · rw [pPre, if_neg (fun q => k (qSide_t.mp q))]
        exact c_t rfl (PO_no h8 (LFr_tr F3 (LFr_N (NFr_tr f7 f8))))
      rw [pPre, if_pos (qSide_t.mpr k)]
      refine c_f (by decide) (fin (NFr_tr f7 f8) h8 (by omega) (fun j => ?_))
      unfold roOrd
      rw [if_neg k214]
      (repeat' split) <;> omega
    · rw [if_neg k216, if_neg k216, if_neg k216]
      unfold haltQ
      refine hd (fun k M4 h7 f7 => ?_) (fun k M4 h7 f7 => ?_)
      rotate_left
      · rw [pPre, if_neg (fun q => k (eQ_t.mp q))]
        exact c_t rfl (PO_no h7 (LFr_tr F3 (LFr_N f7)))
      rw [pPre, if_pos (eQ_t.mpr k)]
      refine c_f (by decide) (c_t rfl (fin f7 h7 (by omega) (fun j => ?_)))
      unfold roOrd
      rw [if_neg k214]
      (repeat' split) <;> omega
end OrdM
