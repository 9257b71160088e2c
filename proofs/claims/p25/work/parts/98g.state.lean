/-! the list that is told, read: its lines -/
theorem gp_l {α : Type} {a b : List α} {k : Nat} {d : α} (h : k < a.length) : (a ++ b).getD k d = a.getD k d := by
  rw [List.getD_eq_getElem?_getD, List.getD_eq_getElem?_getD, List.getElem?_append_left h]
def HL (T : Nat → Nat) (tl p : Nat) (K : List (Nat × Nat)) : Prop := ∀ i, i < K.length → kdT T tl (p + i) = (K.getD i (0, 0)).1 ∧ p + i < nT T tl ∧ ((K.getD i (0, 0)).1 = 2 → keyT T tl (p + i) = (K.getD i (0, 0)).2) ∧ ((K.getD i (0, 0)).1 = 3 → numT T tl (p + i) = (K.getD i (0, 0)).2)
section Hl
variable {T : Nat → Nat} {tl p : Nat} {A B : List (Nat × Nat)}
theorem HL_of (h : HK T tl (A ++ B)) : HL T tl A.length B := fun i hi => by
  have := h (A.length + i) (by rw [List.length_append]; omega)
  rw [getD_app] at this
  exact this
theorem HL_l (h : HL T tl p (A ++ B)) : HL T tl p A := fun i hi => by
  have := h i (by rw [List.length_append]; omega)
  rw [gp_l hi] at this
  exact this
theorem HL_r (h : HL T tl p (A ++ B)) : HL T tl (p + A.length) B := fun i hi => by
  have := h (A.length + i) (by rw [List.length_append]; omega)
  rw [getD_app, ← Nat.add_assoc] at this
  exact this
theorem ixN_none {nm : Nat → Nat} {key : Nat} : ∀ d v : Nat, (∀ i, v ≤ i → i < v + d → nm i ≠ key) → ixN nm key d v = none := by
  intro d
  induction d with
  | zero => exact fun _ _ => rfl
  | succ d ih =>
    intro v h
    rw [ixN, if_neg (h v (Nat.le_refl _) (by omega))]
    exact ih (v + 1) (fun i h1 h2 => h i (by omega) (by omega))
theorem ixN_some {nm : Nat → Nat} {key t : Nat} : ∀ d v : Nat, (∀ i, v ≤ i → i < t → nm i ≠ key) → nm t = key → v ≤ t → t < v + d → ixN nm key d v = some t := by
  intro d
  induction d with
  | zero => intro v _ _ h1 h2; omega
  | succ d ih =>
    intro v h hk h1 h2
    by_cases e : v = t
    · rw [ixN, e, if_pos hk]
    · rw [ixN, if_neg (h v (Nat.le_refl _) (by omega))]
      exact ih (v + 1) (fun i h3 h4 => h i (by omega) h4) hk (by omega) (by omega)
end Hl
/-- tests with what stands at their words -/
def pzV (w : Nat → Nat) (a b : Int32) : List aO :=
  if w 3 = 0 then [(221, a), (3, zn (w 4)), (62, 0)]
  else if w 3 = 1 then [(220, a), (220, b), (3, zn (w 4)), (47, 0), (3, zn (w 4)), (42, 0), (45, 0), (3, zn (w 5)), (61, 0)]
  else if w 3 = 2 then [(222, zn (w 4)), (3, zn (w 5)), (60, 0), (226, zn (w 4)), (230, 0)]
  else if w 3 = 3 then [(224, zn (w 4)), (3, zn 0), (62, 0), (227, zn (w 4)), (228, 0), (229, 0)]
  else [(3, zn (w 4)), (225, 0), (223, zn (w 5)), (3, zn 8), (47, 0), (43, 0), (3, zn 5), (129, 0)]
theorem pzV_len {w : Nat → Nat} {a b : Int32} : (pzV w a b).length ≤ 9 := by
  unfold pzV
  repeat' split
  all_goals (simp only [List.length_cons, List.length_nil]; omega)
/-- rules, an order, the yard, names: as they were chosen -/
def I_r (D : va_G) (r : Nat) (P : aP) : Prop := (∀ i, i < r → pg_z P i = zZ D i) ∧ (∀ i, i < r → ∀ c, c < zZ D i → pg_t P i c = zT D i c) ∧ ∀ i c, pg_t P i c < 4
def I_o (D : va_G) (k : Nat) (P : aP) : Prop := ∀ i, i < k → pg_k P i = pzK (zQ D i) ∧ pg_f P i = zQ D i 1 ∧ pg_s P i = pzS (zQ D i) ∧ ∃ v0 v1, pg_T P i = pzV (zQ D i) v0 v1
def I_y (D : va_G) (a j : Nat) (Y : aY) : Prop := yd_c Y = zC D j ∧ yd_n Y = a ∧ (∀ i, i < a → yd_a Y i = zA D i) ∧ yd_t Y = 0 ∧ yd_m Y = 0 ∧ yd_w Y = 0 ∧ yd_k Y = 0
def I_n (r a : Nat) (σ : aS) : Prop := (∀ i, i < r → sgN σ i = 693 + i) ∧ ∀ i, i < a → sgA σ i = 64 + i
def IS (D : va_G) (r a j k : Nat) (σ : aS) : Prop := sgE σ = 0 ∧ pg_r (sgP σ) = r ∧ I_r D r (sgP σ) ∧ pg_o (sgP σ) = k ∧ I_o D k (sgP σ) ∧ I_y D a j (sgY σ) ∧ I_n r a σ
/-- rule r in the making, c turns -/
def IT (D : va_G) (r c : Nat) (σ : aS) : Prop := sgE σ = 0 ∧ pg_r (sgP σ) = r + 1 ∧ I_r D r (sgP σ) ∧ (pg_z (sgP σ) r = c ∧ ∀ e, e < c → pg_t (sgP σ) r e = zT D r e) ∧ pg_o (sgP σ) = 0 ∧ I_y D 0 0 (sgY σ) ∧ I_n (r + 1) 0 σ
/-- order k in the making -/
def IO (D : va_G) (r a j k kk ff ss : Nat) (acc : List aO) (σ : aS) : Prop := sgE σ = 0 ∧ pg_r (sgP σ) = r ∧ I_r D r (sgP σ) ∧ pg_o (sgP σ) = k + 1 ∧ I_o D k (sgP σ) ∧ (pg_k (sgP σ) k = kk ∧ pg_f (sgP σ) k = ff ∧ pg_s (sgP σ) k = ss ∧ pg_T (sgP σ) k = acc) ∧ I_y D a j (sgY σ) ∧ I_n r a σ
section Lines
variable {D : va_G} {T : Nat → Nat} {tl p q r a j k kk ff ss : Nat} {σ : aS} {acc : List aO}
theorem off_9 {U : Nat → List aO} : ∀ k : Nat, (∀ i, i < k → (U i).length ≤ 9) → off U k ≤ 9 * k := by
  intro k
  induction k with
  | zero => exact fun _ => Nat.le_refl _
  | succ k ih =>
    intro h
    rw [off]
    have h1 := ih (fun i hi => h i (by omega))
    have h2 := h k (by omega)
    omega
theorem I_o_len (h : I_o D k (sgP σ)) {i : Nat} (hi : i < k) : (pg_T (sgP σ) i).length ≤ 9 := by
  obtain ⟨_, _, _, v0, v1, e⟩ := h i hi
  rw [e]
  exact pzV_len
/-- an operation is put in -/
theorem IO_P (h : IO D r a j k kk ff ss acc σ) (hk : k ≤ 5) (hl : acc.length < 9) (o : aO) : IO D r a j k kk ff ss (acc ++ [o]) (sSetP (pOp o (sgP σ)) σ) := by
  obtain ⟨h1, h2, h3, h4, h5, ⟨g1, g2, g3, g4⟩, h6, h7⟩ := h
  have ho : off (pg_T (sgP σ)) (k + 1) ≤ 54 := by
    rw [off, g4]
    have := off_9 (U := pg_T (sgP σ)) k (fun i hi => I_o_len h5 hi)
    omega
  have e : pOp o (sgP σ) = (pg_r (sgP σ), pg_z (sgP σ), pg_t (sgP σ), pg_o (sgP σ), pg_k (sgP σ), pg_f (sgP σ), pg_s (sgP σ), fun j => if j = pg_o (sgP σ) - 1 then pg_T (sgP σ) j ++ [o] else pg_T (sgP σ) j) := by
    unfold pOp
    rw [if_neg (by rw [h4]; omega)]
  rw [e]
  refine ⟨h1, h2, h3, h4, fun i hi => ?_, ⟨g1, g2, g3, ?_⟩, h6, h7⟩
  · obtain ⟨a1, a2, a3, v0, v1, a4⟩ := h5 i hi
    refine ⟨a1, a2, a3, v0, v1, ?_⟩
    show (if i = pg_o (sgP σ) - 1 then pg_T (sgP σ) i ++ [o] else pg_T (sgP σ) i) = _
    rw [if_neg (by omega)]
    exact a4
  · show (if k = pg_o (sgP σ) - 1 then pg_T (sgP σ) k ++ [o] else pg_T (sgP σ) k) = _
    rw [if_pos (by omega), g4]
theorem IO_n (h : IO D r a j k kk ff ss acc σ) (hk : k ≤ 5) (hl : acc.length < 9) {t m : Nat} (h3 : kdT T tl t = 3) (hm : numT T tl t = m) : IO D r a j k kk ff ss (acc ++ [(3, zn m)]) (sOp T tl (3, t) σ) := by
  obtain ⟨n1, n2⟩ := num_ok h3
  have e : sOp T tl (3, t) σ = sSetP (pOp (3, zn m) (sgP σ)) σ := by
    unfold sOp
    rw [if_neg (show ¬ isA 3 = true by decide)]
    show sSetP (pOp (3, if (3 : Nat) = 3 ∨ (3 : Nat) = 220 ∨ (3 : Nat) = 221 then Int64.toInt32 (vlT T tl t) else 0) (sgP σ)) σ = _
    rw [if_pos (Or.inl rfl), n1, i64_32 (by omega), hm]
  rw [e]
  exact IO_P h hk hl _
theorem IO_0 (h : IO D r a j k kk ff ss acc σ) (hk : k ≤ 5) (hl : acc.length < 9) {t z : Nat} (hz : isA z = false ∧ ¬ (z = 3 ∨ z = 220 ∨ z = 221)) : IO D r a j k kk ff ss (acc ++ [(z, 0)]) (sOp T tl (z, t) σ) := by
  have e : sOp T tl (z, t) σ = sSetP (pOp (z, 0) (sgP σ)) σ := by
    unfold sOp
    rw [if_neg (by rw [hz.1]; decide)]
    show sSetP (pOp (z, if z = 3 ∨ z = 220 ∨ z = 221 then Int64.toInt32 (vlT T tl t) else 0) (sgP σ)) σ = _
    rw [if_neg hz.2]
  rw [e]
  exact IO_P h hk hl _
theorem IO_p (h : IO D r a j k kk ff ss acc σ) (hk : k ≤ 5) (hl : acc.length < 9) {t z : Nat} (hz : z = 220 ∨ z = 221) : IO D r a j k kk ff ss (acc ++ [(z, Int64.toInt32 (vlT T tl t))]) (sOp T tl (z, t) σ) := by
  have e : sOp T tl (z, t) σ = sSetP (pOp (z, Int64.toInt32 (vlT T tl t)) (sgP σ)) σ := by
    unfold sOp
    rw [if_neg (show ¬ isA z = true by rcases hz with h | h <;> rw [h] <;> decide)]
    show sSetP (pOp (z, if z = 3 ∨ z = 220 ∨ z = 221 then Int64.toInt32 (vlT T tl t) else 0) (sgP σ)) σ = _
    rw [if_pos (by omega)]
  rw [e]
  exact IO_P h hk hl _
theorem ant_at (h : I_n r a σ) (hn : yd_n (sgY σ) = a) {t i : Nat} (hi : i < a) (hkey : keyT T tl t = 64 + i) : antO T tl t σ = some i := by
  unfold antO
  rw [hkey, hn]
  exact ixN_some a 0 (fun m _ hm => by rw [h.2 m (by omega)]; omega) (h.2 i hi) (Nat.zero_le _) (by omega)
theorem IO_a (h : IO D r a j k kk ff ss acc σ) (hk : k ≤ 5) (hl : acc.length < 9) {t z i : Nat} (hz : isA z = true) (hi : i < a) (hkey : keyT T tl t = 64 + i) : IO D r a j k kk ff ss (acc ++ [(z, zn i)]) (sOp T tl (z, t) σ) := by
  have ha : antO T tl t σ = some i := ant_at h.2.2.2.2.2.2.2 h.2.2.2.2.2.2.1.2.1 hi hkey
  have e : sOp T tl (z, t) σ = sSetP (pOp (z, zn i) (sgP σ)) σ := by
    unfold sOp
    rw [if_pos hz]
    show sSetP (pOp (z, zn (ixD (antO T tl t σ))) (sgP σ)) (sLk (antO T tl t σ) (tkP T tl t) σ) = _
    rw [ha]
    rfl
  rw [e]
  exact IO_P h hk hl _
theorem sOps_c {o : sO} {L : List sO} : sOps T tl (o :: L) σ = sOps T tl L (sOp T tl o σ) := rfl
theorem sOps_n : sOps T tl [] σ = σ := rfl
/-- a test -/
theorem IO_t {w : Nat → Nat} (hw : vO a w) (h : IO D r a j k kk ff ss [] σ) (hk : k ≤ 5) (hL : HL T tl q (kS w ++ [(59, 0)])) : (pTest T tl q).1 = true ∧ (pTest T tl q).2.1 = q + (kS w).length ∧ ∃ v0 v1, IO D r a j k kk ff ss (pzV w v0 v1) (sOps T tl (pTest T tl q).2.2 σ) := by
  obtain ⟨hn, hW, ⟨t1, t2, t3, t4, t5, t6, t7⟩, h10⟩ := hw
  by_cases e0 : w 3 = 0
  · have eK : kS w = [(221, kv 21), (62, 0), (3, w 4)] := by unfold kS; rw [if_pos e0]
    have eV : ∀ x y, pzV w x y = [(221, x), (3, zn (w 4)), (62, 0)] := fun x y => by unfold pzV; rw [if_pos e0]
    rw [eK] at hL ⊢
    have k0 := hL 0 (by simp)
    have k1 := hL 1 (by simp)
    have k2 := hL 2 (by simp)
    have k3 := hL 3 (by simp)
    have z : pTest T tl q = (true, q + 3, [(221, q), (3, q + 2), (62, q + 1)]) := pz_0 (f := 94) k0.1 k1.1 k2.1 k3.1
    rw [z]
    refine ⟨rfl, rfl, Int64.toInt32 (vlT T tl q), 0, ?_⟩
    dsimp only
    rw [eV, sOps_c, sOps_c, sOps_c, sOps_n]
    have s1 := IO_p (T := T) (tl := tl) (t := q) (z := 221) h hk (by decide) (Or.inr rfl)
    have s2 := IO_n (t := q + 2) (m := w 4) s1 hk (by simp) k2.1 (k2.2.2.2 rfl)
    have sf := IO_0 (T := T) (tl := tl) (t := q + 1) (z := 62) s2 hk (by simp) (by decide)
    simp only [List.nil_append, List.cons_append] at sf
    exact sf
  by_cases e1 : w 3 = 1
  · have eK : kS w = [(220, kv 20), (45, 0), (220, kv 20), (47, 0), (3, w 4), (42, 0), (3, w 4), (61, 0), (3, w 5)] := by unfold kS; rw [if_neg e0, if_pos e1]
    have eV : ∀ x y, pzV w x y = [(220, x), (220, y), (3, zn (w 4)), (47, 0), (3, zn (w 4)), (42, 0), (45, 0), (3, zn (w 5)), (61, 0)] := fun x y => by unfold pzV; rw [if_neg e0, if_pos e1]
    rw [eK] at hL ⊢
    have k0 := hL 0 (by simp)
    have k1 := hL 1 (by simp)
    have k2 := hL 2 (by simp)
    have k3 := hL 3 (by simp)
    have k4 := hL 4 (by simp)
    have k5 := hL 5 (by simp)
    have k6 := hL 6 (by simp)
    have k7 := hL 7 (by simp)
    have k8 := hL 8 (by simp)
    have k9 := hL 9 (by simp)
    have z : pTest T tl q = (true, q + 9, [(220, q), (220, q + 2), (3, q + 4), (47, q + 3), (3, q + 6), (42, q + 5), (45, q + 1), (3, q + 8), (61, q + 7)]) := pz_1 (f := 94) k0.1 k1.1 k2.1 k3.1 k4.1 k5.1 k6.1 k7.1 k8.1 k9.1
    rw [z]
    refine ⟨rfl, rfl, Int64.toInt32 (vlT T tl q), Int64.toInt32 (vlT T tl (q + 2)), ?_⟩
    dsimp only
    rw [eV, sOps_c, sOps_c, sOps_c, sOps_c, sOps_c, sOps_c, sOps_c, sOps_c, sOps_c, sOps_n]
    have s1 := IO_p (T := T) (tl := tl) (t := q) (z := 220) h hk (by decide) (Or.inl rfl)
    have s2 := IO_p (T := T) (tl := tl) (t := q + 2) (z := 220) s1 hk (by simp) (Or.inl rfl)
    have s3 := IO_n (t := q + 4) (m := w 4) s2 hk (by simp) k4.1 (k4.2.2.2 rfl)
    have s4 := IO_0 (T := T) (tl := tl) (t := q + 3) (z := 47) s3 hk (by simp) (by decide)
    have s5 := IO_n (t := q + 6) (m := w 4) s4 hk (by simp) k6.1 (k6.2.2.2 rfl)
    have s6 := IO_0 (T := T) (tl := tl) (t := q + 5) (z := 42) s5 hk (by simp) (by decide)
    have s7 := IO_0 (T := T) (tl := tl) (t := q + 1) (z := 45) s6 hk (by simp) (by decide)
    have s8 := IO_n (t := q + 8) (m := w 5) s7 hk (by simp) k8.1 (k8.2.2.2 rfl)
    have sf := IO_0 (T := T) (tl := tl) (t := q + 7) (z := 61) s8 hk (by simp) (by decide)
    simp only [List.nil_append, List.cons_append] at sf
    exact sf
  by_cases e2 : w 3 = 2
  · have eK : kS w = [(222, kv 22), (2, 64 + w 4), (60, 0), (3, w 5), (230, kv 30), (226, kv 26), (2, 64 + w 4)] := by unfold kS; rw [if_neg e0, if_neg e1, if_pos e2]
    have eV : ∀ x y, pzV w x y = [(222, zn (w 4)), (3, zn (w 5)), (60, 0), (226, zn (w 4)), (230, 0)] := fun x y => by unfold pzV; rw [if_neg e0, if_neg e1, if_pos e2]
    have hi := t5 e2
    rw [eK] at hL ⊢
    have k0 := hL 0 (by simp)
    have k1 := hL 1 (by simp)
    have k2 := hL 2 (by simp)
    have k3 := hL 3 (by simp)
    have k4 := hL 4 (by simp)
    have k5 := hL 5 (by simp)
    have k6 := hL 6 (by simp)
    have k7 := hL 7 (by simp)
    have z : pTest T tl q = (true, q + 7, [(222, q + 1), (3, q + 3), (60, q + 2), (226, q + 6), (230, q + 4)]) := pz_2 (f := 94) k0.1 k1.1 k2.1 k3.1 k4.1 k5.1 k6.1 k7.1
    rw [z]
    refine ⟨rfl, rfl, 0, 0, ?_⟩
    dsimp only
    rw [eV, sOps_c, sOps_c, sOps_c, sOps_c, sOps_c, sOps_n]
    have s1 := IO_a (t := q + 1) (z := 222) h hk (by decide) (by decide) hi (k1.2.2.1 rfl)
    have s2 := IO_n (t := q + 3) (m := w 5) s1 hk (by simp) k3.1 (k3.2.2.2 rfl)
    have s3 := IO_0 (T := T) (tl := tl) (t := q + 2) (z := 60) s2 hk (by simp) (by decide)
    have s4 := IO_a (t := q + 6) (z := 226) s3 hk (by simp) (by decide) hi (k6.2.2.1 rfl)
    have sf := IO_0 (T := T) (tl := tl) (t := q + 4) (z := 230) s4 hk (by simp) (by decide)
    simp only [List.nil_append, List.cons_append] at sf
    exact sf
  by_cases e3 : w 3 = 3
  · have eK : kS w = [(224, kv 24), (2, 64 + w 4), (62, 0), (3, 0), (229, kv 29), (228, kv 28), (227, kv 27), (2, 64 + w 4)] := by unfold kS; rw [if_neg e0, if_neg e1, if_neg e2, if_pos e3]
    have eV : ∀ x y, pzV w x y = [(224, zn (w 4)), (3, zn 0), (62, 0), (227, zn (w 4)), (228, 0), (229, 0)] := fun x y => by unfold pzV; rw [if_neg e0, if_neg e1, if_neg e2, if_pos e3]
    have hi := t6 e3
    rw [eK] at hL ⊢
    have k0 := hL 0 (by simp)
    have k1 := hL 1 (by simp)
    have k2 := hL 2 (by simp)
    have k3 := hL 3 (by simp)
    have k4 := hL 4 (by simp)
    have k5 := hL 5 (by simp)
    have k6 := hL 6 (by simp)
    have k7 := hL 7 (by simp)
    have k8 := hL 8 (by simp)
    have z : pTest T tl q = (true, q + 8, [(224, q + 1), (3, q + 3), (62, q + 2), (227, q + 7), (228, q + 5), (229, q + 4)]) := pz_3 (f := 94) k0.1 k1.1 k2.1 k3.1 k4.1 k5.1 k6.1 k7.1 k8.1
    rw [z]
    refine ⟨rfl, rfl, 0, 0, ?_⟩
    dsimp only
    rw [eV, sOps_c, sOps_c, sOps_c, sOps_c, sOps_c, sOps_c, sOps_n]
    have s1 := IO_a (t := q + 1) (z := 224) h hk (by decide) (by decide) hi (k1.2.2.1 rfl)
    have s2 := IO_n (t := q + 3) (m := 0) s1 hk (by simp) k3.1 (k3.2.2.2 rfl)
    have s3 := IO_0 (T := T) (tl := tl) (t := q + 2) (z := 62) s2 hk (by simp) (by decide)
    have s4 := IO_a (t := q + 7) (z := 227) s3 hk (by simp) (by decide) hi (k7.2.2.1 rfl)
    have s5 := IO_0 (T := T) (tl := tl) (t := q + 5) (z := 228) s4 hk (by simp) (by decide)
    have sf := IO_0 (T := T) (tl := tl) (t := q + 4) (z := 229) s5 hk (by simp) (by decide)
    simp only [List.nil_append, List.cons_append] at sf
    exact sf
  · have eK : kS w = [(225, kv 25), (40, 0), (3, w 4), (41, 0), (43, 0), (223, kv 23), (2, 64 + w 5), (47, 0), (3, 8), (129, 0), (3, 5)] := by unfold kS; rw [if_neg e0, if_neg e1, if_neg e2, if_neg e3]
    have eV : ∀ x y, pzV w x y = [(3, zn (w 4)), (225, 0), (223, zn (w 5)), (3, zn 8), (47, 0), (43, 0), (3, zn 5), (129, 0)] := fun x y => by unfold pzV; rw [if_neg e0, if_neg e1, if_neg e2, if_neg e3]
    have hi := t7 (by omega)
    rw [eK] at hL ⊢
    have k0 := hL 0 (by simp)
    have k1 := hL 1 (by simp)
    have k2 := hL 2 (by simp)
    have k3 := hL 3 (by simp)
    have k4 := hL 4 (by simp)
    have k5 := hL 5 (by simp)
    have k6 := hL 6 (by simp)
    have k7 := hL 7 (by simp)
    have k8 := hL 8 (by simp)
    have k9 := hL 9 (by simp)
    have k10 := hL 10 (by simp)
    have k11 := hL 11 (by simp)
    have z : pTest T tl q = (true, q + 11, [(3, q + 2), (225, q), (223, q + 6), (3, q + 8), (47, q + 7), (43, q + 4), (3, q + 10), (129, q + 9)]) := pz_4 (f := 91) k0.1 k1.1 k2.1 k3.1 k4.1 k5.1 k6.1 k7.1 k8.1 k9.1 k10.1 k11.1
    rw [z]
    refine ⟨rfl, rfl, 0, 0, ?_⟩
    dsimp only
    rw [eV, sOps_c, sOps_c, sOps_c, sOps_c, sOps_c, sOps_c, sOps_c, sOps_c, sOps_n]
    have s1 := IO_n (t := q + 2) (m := w 4) h hk (by decide) k2.1 (k2.2.2.2 rfl)
    have s2 := IO_0 (T := T) (tl := tl) (t := q) (z := 225) s1 hk (by simp) (by decide)
    have s3 := IO_a (t := q + 6) (z := 223) s2 hk (by simp) (by decide) hi (k6.2.2.1 rfl)
    have s4 := IO_n (t := q + 8) (m := 8) s3 hk (by simp) k8.1 (k8.2.2.2 rfl)
    have s5 := IO_0 (T := T) (tl := tl) (t := q + 7) (z := 47) s4 hk (by simp) (by decide)
    have s6 := IO_0 (T := T) (tl := tl) (t := q + 4) (z := 43) s5 hk (by simp) (by decide)
    have s7 := IO_n (t := q + 10) (m := 5) s6 hk (by simp) k10.1 (k10.2.2.2 rfl)
    have sf := IO_0 (T := T) (tl := tl) (t := q + 9) (z := 129) s7 hk (by simp) (by decide)
    simp only [List.nil_append, List.cons_append] at sf
    exact sf
end Lines
