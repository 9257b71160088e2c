/-! the list's tokens -/
def kv (w : Nat) : Nat := pk (kwB w)
def PX (T : Nat → Nat) (tl : Nat) (L : List Nat) : Prop := (∀ k, k < L.length → T k = gB L k) ∧ L.length ≤ tl
def Sq (L : List Nat) (K : List (Nat × Nat)) (c : Bool) : Prop := ∀ (T : Nat → Nat) (tl : Nat), tl ≤ 2000 → PX T tl L → (c = true ∨ nwB (bt T tl L.length) = true) → Seg T tl 0 K L.length
theorem gB_l {L S : List Nat} {k : Nat} (h : k < L.length) : gB (L ++ S) k = gB L k := gd_l h
theorem gB_r {L S : List Nat} {k : Nat} : gB (L ++ S) (L.length + k) = gB S k := by
  unfold gB
  rw [gd_r (Nat.le_add_right _ _), Nat.add_sub_cancel_left]
theorem Sq_nil {c : Bool} : Sq [] [] c := fun _ _ _ _ _ => rfl
theorem Sq_add {L B : List Nat} {K K' : List (Nat × Nat)} {c c' : Bool} (h : Sq L K c) {f : Nat} (hl : lxF f B = some K') (hc : c = true ∨ nwB (gB B 0) = true) (h0 : 0 < B.length) (hc' : c' = true → clB B = true) : Sq (L ++ B) (K ++ K') c' := by
  intro T tl htl hP hE
  obtain ⟨p1, p2⟩ := hP
  rw [List.length_append] at p2
  have hb : bt T tl L.length = gB B 0 := by
    unfold bt
    rw [if_pos (by omega), p1 _ (by rw [List.length_append]; omega)]
    exact gB_r (k := 0)
  refine Seg_app (h T tl htl ⟨fun k hk => ?_, by omega⟩ (hc.imp id (fun z => by rw [hb]; exact z))) ?_
  · rw [p1 k (by rw [List.length_append]; omega), gB_l hk]
  · rw [List.length_append]
    refine lx_ok htl f B L.length K' hl (fun j hj => ?_) p2 (fun _ => hE.imp hc' (fun z => by rw [List.length_append] at z; exact z))
    rw [p1 _ (by rw [List.length_append]; omega), gB_r]
/-! pieces -/
theorem q_rule : ∀ r : Nat, r < 5 → lxF 60 (sTx 20 ++ dgL r) = some [(200, kv 0), (2, 693 + r)] ∧ 0 < (sTx 20 ++ dgL r).length := by decide +kernel
theorem q_turn : ∀ t : Nat, t < 4 → lxF 60 (sTx 21 ++ sTx t) = some [(201 + t, kv (1 + t))] ∧ nwB (gB (sTx 21 ++ sTx t) 0) = true ∧ 0 < (sTx 21 ++ sTx t).length := by decide +kernel
theorem q_semi : lxF 60 (sTx 22) = some [(59, 0)] ∧ nwB (gB (sTx 22) 0) = true ∧ 0 < (sTx 22).length ∧ clB (sTx 22) = true := by decide +kernel
theorem q_end : lxF 60 (sTx 27) = some [(59, 0)] ∧ nwB (gB (sTx 27) 0) = true ∧ 0 < (sTx 27).length ∧ clB (sTx 27) = true := by decide +kernel
theorem q_ant : ∀ a : Nat, a < 6 → lxF 60 (sTx 23 ++ dgL a) = some [(205, kv 5), (2, 64 + a)] ∧ 0 < (sTx 23 ++ dgL a).length := by decide +kernel
theorem q_of : ∀ r : Nat, r < 5 → lxF 60 (sTx 24 ++ dgL r) = some [(206, kv 6), (2, 693 + r)] ∧ nwB (gB (sTx 24 ++ dgL r) 0) = true ∧ 0 < (sTx 24 ++ dgL r).length := by decide +kernel
theorem q_at : ∀ x : Nat, x < 64 → lxF 60 (sTx 25 ++ dgL x) = some [(207, kv 7), (3, x)] ∧ nwB (gB (sTx 25 ++ dgL x) 0) = true ∧ 0 < (sTx 25 ++ dgL x).length := by decide +kernel
theorem q_num : ∀ x : Nat, x < 64 → lxF 60 (sTx 21 ++ dgL x) = some [(3, x)] ∧ nwB (gB (sTx 21 ++ dgL x) 0) = true ∧ 0 < (sTx 21 ++ dgL x).length := by decide +kernel
theorem q_faces : ∀ s : Nat, s < 4 → lxF 60 (sTx 26 ++ sTx (4 + s)) = some [(208, kv 8), (209 + s, kv (9 + s))] ∧ nwB (gB (sTx 26 ++ sTx (4 + s)) 0) = true ∧ 0 < (sTx 26 ++ sTx (4 + s)).length := by decide +kernel
theorem q_paint : ∀ x : Nat, x < 64 → lxF 60 (sTx 28 ++ dgL x) = some [(213, kv 13), (3, x)] ∧ 0 < (sTx 28 ++ dgL x).length := by decide +kernel
theorem q_wash : ∀ x : Nat, x < 64 → lxF 60 (sTx 29 ++ dgL x) = some [(214, kv 14), (3, x)] ∧ 0 < (sTx 29 ++ dgL x).length := by decide +kernel
theorem q_to : ∀ x : Nat, x < 64 → lxF 60 (sTx 30 ++ dgL x) = some [(215, kv 15), (3, x)] ∧ nwB (gB (sTx 30 ++ dgL x) 0) = true ∧ 0 < (sTx 30 ++ dgL x).length := by decide +kernel
theorem q_face : ∀ a : Nat, a < 6 → lxF 60 (sTx 31 ++ dgL a) = some [(216, kv 16), (2, 64 + a)] ∧ 0 < (sTx 31 ++ dgL a).length := by decide +kernel
theorem q_side : ∀ s : Nat, s < 4 → lxF 60 (sTx 21 ++ sTx (4 + s)) = some [(209 + s, kv (9 + s))] ∧ nwB (gB (sTx 21 ++ sTx (4 + s)) 0) = true ∧ 0 < (sTx 21 ++ sTx (4 + s)).length := by decide +kernel
theorem q_halt : ∀ a : Nat, a < 6 → lxF 60 (sTx 32 ++ dgL a) = some [(217, kv 17), (2, 64 + a)] ∧ 0 < (sTx 32 ++ dgL a).length := by decide +kernel
theorem q_walk : ∀ a : Nat, a < 6 → lxF 60 (sTx 33 ++ dgL a) = some [(218, kv 18), (2, 64 + a)] ∧ 0 < (sTx 33 ++ dgL a).length := by decide +kernel
theorem q_when : lxF 60 (sTx 35) = some [(219, kv 19)] ∧ nwB (gB (sTx 35) 0) = true ∧ 0 < (sTx 35).length ∧ clB (sTx 35) = true := by decide +kernel
theorem q_dark : ∀ x : Nat, x < 64 → lxF 60 (sTx 8 ++ dgL x) = some [(221, kv 21), (62, 0), (3, x)] ∧ 0 < (sTx 8 ++ dgL x).length := by decide +kernel
theorem q_step : ∀ x : Nat, x < 64 → lxF 60 (sTx 9 ++ dgL x) = some [(220, kv 20), (45, 0), (220, kv 20), (47, 0), (3, x)] ∧ 0 < (sTx 9 ++ dgL x).length := by decide +kernel
theorem q_mul : ∀ x : Nat, x < 11 → ∀ y : Nat, y < 10 → lxF 60 (sTx 10 ++ (dgL x ++ (sTx 11 ++ dgL y))) = some [(42, 0), (3, x), (61, 0), (3, y)] ∧ nwB (gB (sTx 10 ++ (dgL x ++ (sTx 11 ++ dgL y))) 0) = true ∧ 0 < (sTx 10 ++ (dgL x ++ (sTx 11 ++ dgL y))).length := by decide +kernel
theorem q_across : ∀ a : Nat, a < 6 → lxF 60 (sTx 12 ++ dgL a) = some [(222, kv 22), (2, 64 + a)] ∧ 0 < (sTx 12 ++ dgL a).length := by decide +kernel
theorem q_less : ∀ x : Nat, x < 64 → lxF 60 (sTx 13 ++ dgL x) = some [(60, 0), (3, x)] ∧ nwB (gB (sTx 13 ++ dgL x) 0) = true ∧ 0 < (sTx 13 ++ dgL x).length := by decide +kernel
theorem q_meets : ∀ a : Nat, a < 6 → lxF 60 (sTx 14 ++ dgL a) = some [(230, kv 30), (226, kv 26), (2, 64 + a)] ∧ nwB (gB (sTx 14 ++ dgL a) 0) = true ∧ 0 < (sTx 14 ++ dgL a).length := by decide +kernel
theorem q_period : ∀ a : Nat, a < 6 → lxF 60 (sTx 15 ++ dgL a) = some [(224, kv 24), (2, 64 + a)] ∧ 0 < (sTx 15 ++ dgL a).length := by decide +kernel
theorem q_halted : ∀ a : Nat, a < 6 → lxF 60 (sTx 16 ++ dgL a) = some [(62, 0), (3, 0), (229, kv 29), (228, kv 28), (227, kv 27), (2, 64 + a)] ∧ nwB (gB (sTx 16 ++ dgL a) 0) = true ∧ 0 < (sTx 16 ++ dgL a).length := by decide +kernel
theorem q_row : ∀ x : Nat, x < 64 → lxF 60 (sTx 17 ++ dgL x) = some [(225, kv 25), (40, 0), (3, x)] ∧ 0 < (sTx 17 ++ dgL x).length := by decide +kernel
theorem q_down : ∀ a : Nat, a < 6 → lxF 60 (sTx 18 ++ dgL a) = some [(41, 0), (43, 0), (223, kv 23), (2, 64 + a)] ∧ nwB (gB (sTx 18 ++ dgL a) 0) = true ∧ 0 < (sTx 18 ++ dgL a).length := by decide +kernel
theorem q_five : lxF 60 (sTx 19) = some [(47, 0), (3, 8), (129, 0), (3, 5)] ∧ nwB (gB (sTx 19) 0) = true ∧ 0 < (sTx 19).length := by decide +kernel
/-! the lines' tokens -/
def kT (D : va_G) (r : Nat) : Nat → List (Nat × Nat)
  | 0 => []
  | k + 1 => kT D r k ++ [(201 + zT D r k, kv (1 + zT D r k))]
def kR1 (D : va_G) (r : Nat) : List (Nat × Nat) := [(200, kv 0), (2, 693 + r)] ++ (kT D r (zZ D r) ++ [(59, 0)])
def kR (D : va_G) : Nat → List (Nat × Nat)
  | 0 => []
  | r + 1 => kR D r ++ kR1 D r
def kA1 (D : va_G) (a : Nat) : List (Nat × Nat) := [(205, kv 5), (2, 64 + a), (206, kv 6), (2, 693 + zAr D a), (207, kv 7), (3, zAx D a), (3, zAy D a), (208, kv 8), (209 + zAs D a, kv (9 + zAs D a)), (59, 0)]
def kA (D : va_G) : Nat → List (Nat × Nat)
  | 0 => kR D (zR D)
  | a + 1 => kA D a ++ kA1 D a
def kP1 (D : va_G) (k : Nat) : List (Nat × Nat) := [(213, kv 13), (3, zPc D k), (3, zPr D k), (3, zPv D k), (59, 0)]
def kP (D : va_G) : Nat → List (Nat × Nat)
  | 0 => kA D (zN D)
  | j + 1 => kP D j ++ kP1 D (zPn D - j)
def kH (w : Nat → Nat) : List (Nat × Nat) := if w 0 = 0 then [(214, kv 14), (3, w 1), (215, kv 15), (3, w 2)] else if w 0 = 1 then [(216, kv 16), (2, 64 + w 1), (209 + w 2, kv (9 + w 2))] else if w 0 = 2 then [(217, kv 17), (2, 64 + w 1)] else [(218, kv 18), (2, 64 + w 1)]
def kS (w : Nat → Nat) : List (Nat × Nat) := if w 3 = 0 then [(221, kv 21), (62, 0), (3, w 4)] else if w 3 = 1 then [(220, kv 20), (45, 0), (220, kv 20), (47, 0), (3, w 4), (42, 0), (3, w 4), (61, 0), (3, w 5)] else if w 3 = 2 then [(222, kv 22), (2, 64 + w 4), (60, 0), (3, w 5), (230, kv 30), (226, kv 26), (2, 64 + w 4)] else if w 3 = 3 then [(224, kv 24), (2, 64 + w 4), (62, 0), (3, 0), (229, kv 29), (228, kv 28), (227, kv 27), (2, 64 + w 4)] else [(225, kv 25), (40, 0), (3, w 4), (41, 0), (43, 0), (223, kv 23), (2, 64 + w 5), (47, 0), (3, 8), (129, 0), (3, 5)]
def kO1 (w : Nat → Nat) : List (Nat × Nat) := kH w ++ ([(219, kv 19)] ++ (kS w ++ [(59, 0)]))
def kOr (D : va_G) : Nat → List (Nat × Nat)
  | 0 => kP D (zPn D)
  | j + 1 => kOr D j ++ kO1 (zQ D j)
section Toks
variable {D : va_G} {L : List Nat} {K : List (Nat × Nat)}
theorem Sq_a2 {A B : List Nat} {c' : Bool} {K' : List (Nat × Nat)} {c : Bool} (h : Sq L K c) (hl : lxF 60 (A ++ B) = some K') (hc : c = true ∨ nwB (gB (A ++ B) 0) = true) (h0 : 0 < (A ++ B).length) (hc' : c' = true → clB (A ++ B) = true) : Sq ((L ++ A) ++ B) (K ++ K') c' := by
  rw [List.append_assoc]
  exact Sq_add h hl hc h0 hc'
theorem no_cl {B : List Nat} : false = true → clB B = true := fun z => absurd z (by decide)
theorem Sq_T {r : Nat} (h : Sq L K false) : ∀ k : Nat, Sq (txT D r L k) (K ++ kT D r k) false := by
  intro k
  induction k with
  | zero => rw [kT, List.append_nil]; exact h
  | succ k ih =>
    obtain ⟨a1, a2, a3⟩ := q_turn _ (zT_b (D := D) (r := r) (k := k))
    have := Sq_a2 (c' := false) ih a1 (Or.inr a2) a3 no_cl
    rw [List.append_assoc K] at this
    exact this
theorem Sq_R : ∀ r : Nat, r ≤ 5 → Sq (txR D r) (kR D r) true := by
  intro r
  induction r with
  | zero => exact fun _ => Sq_nil
  | succ r ih =>
    intro hr
    obtain ⟨a1, a2⟩ := q_rule r (by omega)
    obtain ⟨b1, b2, b3, b4⟩ := q_semi
    have h1 := Sq_a2 (c' := false) (ih (by omega)) a1 (Or.inl rfl) a2 no_cl
    have h2 := Sq_add (c' := true) (Sq_T (D := D) (r := r) h1 (zZ D r)) b1 (Or.inr b2) b3 (fun _ => b4)
    show Sq (txT D r ((txR D r ++ sTx 20) ++ dgL r) (zZ D r) ++ sTx 22) (kR D r ++ ([(200, kv 0), (2, 693 + r)] ++ (kT D r (zZ D r) ++ [(59, 0)]))) true
    simp only [← List.append_assoc] at h2 ⊢
    exact h2
theorem Sq_A : ∀ a : Nat, a ≤ 5 → Sq (txA D a) (kA D a) true := by
  intro a
  induction a with
  | zero => exact fun _ => Sq_R _ (by have := zR_b (D := D); omega)
  | succ a ih =>
    intro ha
    have hr := zAr_b (D := D) (a := a)
    have hR := zR_b (D := D)
    obtain ⟨a1, a2⟩ := q_ant a (by omega)
    obtain ⟨b1, b2, b3⟩ := q_of (zAr D a) (by omega)
    obtain ⟨c1, c2, c3⟩ := q_at _ (zAx_b (D := D) (a := a))
    obtain ⟨d1, d2, d3⟩ := q_num _ (zAy_b (D := D) (a := a))
    obtain ⟨e1, e2, e3⟩ := q_faces _ (zAs_b (D := D) (a := a))
    obtain ⟨f1, f2, f3, f4⟩ := q_end
    have h1 := Sq_a2 (c' := false) (ih (by omega)) a1 (Or.inl rfl) a2 no_cl
    have h2 := Sq_a2 (c' := false) h1 b1 (Or.inr b2) b3 no_cl
    have h3 := Sq_a2 (c' := false) h2 c1 (Or.inr c2) c3 no_cl
    have h4 := Sq_a2 (c' := false) h3 d1 (Or.inr d2) d3 no_cl
    have h5 := Sq_a2 (c' := false) h4 e1 (Or.inr e2) e3 no_cl
    have h6 := Sq_add (c' := true) h5 f1 (Or.inr f2) f3 (fun _ => f4)
    simp only [List.append_assoc, List.cons_append, List.nil_append] at h6
    show Sq (txA1 D a (txA D a)) (kA D a ++ kA1 D a) true
    unfold txA1 kA1
    simp only [List.append_assoc, List.cons_append, List.nil_append]
    exact h6
theorem Sq_P : ∀ j : Nat, Sq (txP D j) (kP D j) true := by
  intro j
  induction j with
  | zero => exact Sq_A _ zN_b.2
  | succ j ih =>
    obtain ⟨a1, a2⟩ := q_paint _ (zPc_b (D := D) (k := zPn D - j))
    obtain ⟨b1, b2, b3⟩ := q_num _ (zPr_b (D := D) (k := zPn D - j))
    obtain ⟨c1, c2, c3⟩ := q_num (zPv D (zPn D - j)) (by have := zPv_b (D := D) (k := zPn D - j); omega)
    obtain ⟨f1, f2, f3, f4⟩ := q_semi
    have h1 := Sq_a2 (c' := false) ih a1 (Or.inl rfl) a2 no_cl
    have h2 := Sq_a2 (c' := false) h1 b1 (Or.inr b2) b3 no_cl
    have h3 := Sq_a2 (c' := false) h2 c1 (Or.inr c2) c3 no_cl
    have h6 := Sq_add (c' := true) h3 f1 (Or.inr f2) f3 (fun _ => f4)
    simp only [List.append_assoc, List.cons_append, List.nil_append] at h6
    show Sq (txP1 D (zPn D - j) (txP D j)) (kP D j ++ kP1 D (zPn D - j)) true
    unfold txP1 kP1
    simp only [List.append_assoc, List.cons_append, List.nil_append]
    exact h6
/-- the numbers of an order that is told -/
def vO (n : Nat) (w : Nat → Nat) : Prop := n ≤ 5 ∧ vW n w ∧ vT n w ∧ (w 3 = 1 → w 4 ≤ 10 ∧ w 5 < 10)
theorem Sq_H {n : Nat} {w : Nat → Nat} (hw : vO n w) (h : Sq L K true) : Sq (L ++ txH w) (K ++ kH w) false := by
  obtain ⟨hn, hW, hT, h10⟩ := hw
  unfold vW at hW
  unfold txH kH
  by_cases e0 : w 0 = 0
  · rw [if_pos e0, if_pos e0]
    obtain ⟨a1, a2⟩ := q_wash (w 1) (by omega)
    obtain ⟨b1, b2, b3⟩ := q_to (w 2) (by omega)
    have h1 := Sq_a2 (c' := false) h a1 (Or.inl rfl) a2 no_cl
    have h2 := Sq_a2 (c' := false) h1 b1 (Or.inr b2) b3 no_cl
    simp only [List.append_assoc, List.cons_append, List.nil_append] at h2 ⊢
    exact h2
  · rw [if_neg e0, if_neg e0]
    by_cases e1 : w 0 = 1
    · rw [if_pos e1, if_pos e1]
      obtain ⟨a1, a2⟩ := q_face (w 1) (by omega)
      obtain ⟨b1, b2, b3⟩ := q_side (w 2) (by omega)
      have h1 := Sq_a2 (c' := false) h a1 (Or.inl rfl) a2 no_cl
      have h2 := Sq_a2 (c' := false) h1 b1 (Or.inr b2) b3 no_cl
      simp only [List.append_assoc, List.cons_append, List.nil_append] at h2 ⊢
      exact h2
    · rw [if_neg e1, if_neg e1]
      by_cases e2 : w 0 = 2
      · rw [if_pos e2, if_pos e2]
        obtain ⟨a1, a2⟩ := q_halt (w 1) (by omega)
        have h1 := Sq_a2 (c' := false) h a1 (Or.inl rfl) a2 no_cl
        simp only [List.append_assoc, List.cons_append, List.nil_append] at h1 ⊢
        exact h1
      · rw [if_neg e2, if_neg e2]
        obtain ⟨a1, a2⟩ := q_walk (w 1) (by omega)
        have h1 := Sq_a2 (c' := false) h a1 (Or.inl rfl) a2 no_cl
        simp only [List.append_assoc, List.cons_append, List.nil_append] at h1 ⊢
        exact h1
theorem Sq_S {n : Nat} {w : Nat → Nat} (hw : vO n w) (h : Sq L K true) : Sq (L ++ txS w) (K ++ kS w) false := by
  obtain ⟨hn, hW, ⟨t1, t2, t3, t4, t5, t6, t7⟩, h10⟩ := hw
  unfold txS kS
  by_cases e0 : w 3 = 0
  · rw [if_pos e0, if_pos e0]
    obtain ⟨a1, a2⟩ := q_dark (w 4) t2
    have h1 := Sq_a2 (c' := false) h a1 (Or.inl rfl) a2 no_cl
    simp only [List.append_assoc, List.cons_append, List.nil_append] at h1 ⊢
    exact h1
  · rw [if_neg e0, if_neg e0]
    by_cases e1 : w 3 = 1
    · rw [if_pos e1, if_pos e1]
      obtain ⟨a1, a2⟩ := q_step (w 4) t2
      obtain ⟨b1, b2, b3⟩ := q_mul (w 4) (by have := h10 e1; omega) (w 5) (by have := h10 e1; omega)
      have h1 := Sq_a2 (c' := false) h a1 (Or.inl rfl) a2 no_cl
      have h2 := Sq_add (c' := false) h1 b1 (Or.inr b2) b3 no_cl
      simp only [List.append_assoc, List.cons_append, List.nil_append] at h2 ⊢
      exact h2
    · rw [if_neg e1, if_neg e1]
      by_cases e2 : w 3 = 2
      · rw [if_pos e2, if_pos e2]
        obtain ⟨a1, a2⟩ := q_across (w 4) (by have := t5 e2; omega)
        obtain ⟨b1, b2, b3⟩ := q_less (w 5) t3
        obtain ⟨c1, c2, c3⟩ := q_meets (w 4) (by have := t5 e2; omega)
        have h1 := Sq_a2 (c' := false) h a1 (Or.inl rfl) a2 no_cl
        have h2 := Sq_a2 (c' := false) h1 b1 (Or.inr b2) b3 no_cl
        have h3 := Sq_a2 (c' := false) h2 c1 (Or.inr c2) c3 no_cl
        simp only [List.append_assoc, List.cons_append, List.nil_append] at h3 ⊢
        exact h3
      · rw [if_neg e2, if_neg e2]
        by_cases e3 : w 3 = 3
        · rw [if_pos e3, if_pos e3]
          obtain ⟨a1, a2⟩ := q_period (w 4) (by have := t6 e3; omega)
          obtain ⟨b1, b2, b3⟩ := q_halted (w 4) (by have := t6 e3; omega)
          have h1 := Sq_a2 (c' := false) h a1 (Or.inl rfl) a2 no_cl
          have h2 := Sq_a2 (c' := false) h1 b1 (Or.inr b2) b3 no_cl
          simp only [List.append_assoc, List.cons_append, List.nil_append] at h2 ⊢
          exact h2
        · rw [if_neg e3, if_neg e3]
          obtain ⟨a1, a2⟩ := q_row (w 4) t2
          obtain ⟨b1, b2, b3⟩ := q_down (w 5) (by have := t7 (by omega); omega)
          obtain ⟨c1, c2, c3⟩ := q_five
          have h1 := Sq_a2 (c' := false) h a1 (Or.inl rfl) a2 no_cl
          have h2 := Sq_a2 (c' := false) h1 b1 (Or.inr b2) b3 no_cl
          have h3 := Sq_add (c' := false) h2 c1 (Or.inr c2) c3 no_cl
          simp only [List.append_assoc, List.cons_append, List.nil_append] at h3 ⊢
          exact h3
theorem zQ_O {k : Nat} : vO (zN D) (zQ D k) := ⟨zN_b.2, zQ_W, zQ_T, fun h => ⟨((zO4_b (D := D) (k := zOn D - k)).2.1 h).2, (zO5_b (D := D) (k := zOn D - k)).1 h⟩⟩
theorem Sq_O : ∀ j : Nat, Sq (txO D j) (kOr D j) true := by
  intro j
  induction j with
  | zero => exact Sq_P _
  | succ j ih =>
    obtain ⟨a1, a2, a3, a4⟩ := q_when
    obtain ⟨f1, f2, f3, f4⟩ := q_end
    have h1 := Sq_H (zQ_O (D := D) (k := j)) ih
    have h2 := Sq_add (c' := true) h1 a1 (Or.inr a2) a3 (fun _ => a4)
    have h3 := Sq_S (zQ_O (D := D) (k := j)) h2
    have h6 := Sq_add (c' := true) h3 f1 (Or.inr f2) f3 (fun _ => f4)
    show Sq ((((txO D j ++ txH (zQ D j)) ++ sTx 35) ++ txS (zQ D j)) ++ sTx 27) (kOr D j ++ (kH (zQ D j) ++ ([(219, kv 19)] ++ (kS (zQ D j) ++ [(59, 0)])))) true
    simp only [← List.append_assoc] at h6 ⊢
    exact h6
end Toks
