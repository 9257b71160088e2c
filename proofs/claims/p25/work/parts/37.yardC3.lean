/-! the class's yards: what is told -/
section YardSpecs3
variable {G : gS} {ad : Nat → Nat} {M : mS} {y : Nat} {Y : aY} {c : Nat → Nat}
theorem c_walk_loop (hS : YSh G ad y) {n : Nat} {a : Nat → aA} (hn : n ≤ 6) (hv : ∀ i, i < n → vA (a i)) (h4 : mI M (ad y) 4 = zn n) (ha : cYa ad M y n a) : ∀ (d i f : Nat), i + d = n → d < f → m_X8_walkingAnts_4 G (ad y) f M (zn (wkA a i)) (zn i) = some (M, zn (wkA a n)) := by
  intro d
  induction d with
  | zero =>
    intro i f hi hf
    obtain ⟨f, rfl⟩ : ∃ g, f = g + 1 := ⟨f - 1, by omega⟩
    have hi : i = n := by omega
    subst hi
    rw [m_X8_walkingAnts_4, h4, if_pos (Int32.le_refl _)]
    rfl
  | succ d ih =>
    intro i f hi hf
    obtain ⟨f, rfl⟩ : ∃ g, f = g + 1 := ⟨f - 1, by omega⟩
    rw [m_X8_walkingAnts_4, h4, if_neg (by rw [zn_le (by omega) (by omega)]; omega), if_neg (by rw [show (6 : Int32) = zn 6 from rfl, zn_le (by omega) (by omega)]; omega), zn_nat (by omega), hS.2.2.2.1]
    unfold o_rf o_ix
    dsimp only
    rw [hS.2.2.2.2.2.2.2.2.1, if_neg (show ¬ (zn i < 0 ∨ 6 ≤ (zn i).toNatClampNeg) from zn_in (by omega) (by decide)), hS.2.2.2.2.1 i (by omega)]
    dsimp only
    rw [(ha i (by omega)).1.2.2.2.2.1]
    have hw := (hv i (by omega)).2.2.2.2.1
    have fin : ∀ e : Nat, e = an_w (a i) → m_X8_walkingAnts_36 G (ad y) (fun M v1 v2 => m_X8_walkingAnts_4 G (ad y) f M v1 v2) M (zn i) (zn (wkA a i)) (zn e) = some (M, zn (wkA a n)) := by
      intro e he
      unfold m_X8_walkingAnts_36 o_bd
      rw [zn_add, zn_one, he]
      exact ih (i + 1) f (by omega) (by omega)
    rcases (show an_w (a i) = 0 ∨ an_w (a i) = 1 by omega) with e | e
    · rw [e, if_pos (show zn 0 = 0 from rfl)]
      exact fin 0 e.symm
    · rw [e, if_neg (show ¬ zn 1 = 0 by decide)]
      exact fin 1 e.symm
theorem c_walking (hS : YSh G ad y) {b : Nat} (hv : vY b Y) (hc : cY ad M y Y) : m_X8_walkingAnts G M (ad y) = some (M, zn (wkA (yd_a Y) (yd_n Y))) :=
  c_walk_loop hS hv.2.1 (fun i hi => (hv.2.2 i hi).1) hc.2.1.1 hc.2.2 (yd_n Y) 0 fu (by omega) (by have := hv.2.1; unfold fu; omega)
theorem c_csum_loop (hS : YSh G ad y) (hc : cYc ad M y c) : ∀ (d v f : Nat), v + d = 6 → d < f → m_X8_colourSum_4 G (ad y) f M (zn (csum c v)) (zn v) = some (M, zn (csum c 6)) := by
  intro d
  induction d with
  | zero =>
    intro v f hi hf
    obtain ⟨f, rfl⟩ : ∃ g, f = g + 1 := ⟨f - 1, by omega⟩
    have hi : v = 6 := by omega
    subst hi
    rw [m_X8_colourSum_4, if_pos (show (6 : Int32) ≤ zn 6 from Int32.le_refl _)]
  | succ d ih =>
    intro v f hi hf
    obtain ⟨f, rfl⟩ : ∃ g, f = g + 1 := ⟨f - 1, by omega⟩
    rw [m_X8_colourSum_4, if_neg (by rw [show (6 : Int32) = zn 6 from rfl, zn_le (by omega) (by omega)]; omega), zn_nat (by omega), hS.2.2.1]
    unfold o_rf o_ix o_bd
    dsimp only
    rw [hS.2.2.2.2.2.2.2.1, if_neg (show ¬ (zn v < 0 ∨ 6 ≤ (zn v).toNatClampNeg) from zn_in (by omega) (by decide)), hc.2.2 v (by omega), zn_mul, zn_add, zn_one]
    exact ih (v + 1) f (by omega) (by omega)
theorem c_csum (hS : YSh G ad y) (hc : cYc ad M y c) : m_X8_colourSum G M (ad y) = some (M, zn (csum c 6)) := c_csum_loop hS hc 6 0 fu (by omega) (by unfold fu; omega)
def aTot (Y : aY) (w : Nat) : Nat := if w = 4 then dk (yd_c Y) else if w = 5 then csum (yd_c Y) 6 else if w = 6 then wkA (yd_a Y) (yd_n Y) else if w = 7 then yd_m Y else if w = 8 then yd_w Y else yd_k Y
theorem c_total (hS : YSh G ad y) {b : Nat} (hv : vY b Y) (hc : cY ad M y Y) {w : Nat} (h1 : 4 ≤ w) (h2 : w ≤ 9) : m_X8_total G M (ad y) (zn w) = some (M, zn (aTot Y w)) := by
  obtain ⟨f4, f5, f6, f7, f8⟩ := id hc.2.1
  unfold m_X8_total
  rw [c_dark hS hc.1, c_csum hS hc.1, c_walking hS hv hc, f6, f7, f8]
  rcases (show w = 4 ∨ w = 5 ∨ w = 6 ∨ w = 7 ∨ w = 8 ∨ w = 9 by omega) with rfl | rfl | rfl | rfl | rfl | rfl <;> rfl
theorem c_hasAnt (hn : yd_n Y ≤ 6) (hc : cYf ad M y Y) {v : Int32} : m_X8_hasAnt G M (ad y) v = some (M, if v < 0 ∨ zn (yd_n Y) ≤ v then 0 else 1) := by
  unfold m_X8_hasAnt m_X8_hasAnt_22
  rw [hc.1]
  by_cases h1 : v < 0
  · rw [if_pos h1, if_pos (Or.inl h1)]; rfl
  · rw [if_neg h1]
    by_cases h2 : zn (yd_n Y) ≤ v
    · rw [if_pos h2, if_pos (Or.inr h2)]; rfl
    · obtain ⟨n, hn2, rfl⟩ := I32_nat h1
      have h3 : ¬ (6 : Int32) ≤ zn n := by
        rw [zn_le (by omega) hn2] at h2
        rw [show (6 : Int32) = zn 6 from rfl, zn_le (by omega) hn2]
        omega
      rw [if_neg h2, if_neg h3, if_neg (fun h => h.elim h1 h2)]
      rfl
theorem any_t {n : Nat} {p : Nat → Bool} : (List.range n).any p = true ↔ ∃ j, j < n ∧ p j = true := by
  rw [List.any_eq_true]
  constructor
  · rintro ⟨x, h1, h2⟩; exact ⟨x, List.mem_range.mp h1, h2⟩
  · rintro ⟨x, h1, h2⟩; exact ⟨x, List.mem_range.mpr h1, h2⟩
theorem meB_t {a : Nat → aA} {n i : Nat} : meB a n i = true ↔ ∃ j, j < n ∧ j ≠ i ∧ pl_ (a j) = pl_ (a i) := by
  unfold meB
  rw [any_t]
  constructor
  · rintro ⟨j, h1, h2⟩
    rw [Bool.and_eq_true, bne_iff_ne, beq_iff_eq] at h2
    exact ⟨j, h1, h2⟩
  · rintro ⟨j, h1, h2⟩
    refine ⟨j, h1, ?_⟩
    rw [Bool.and_eq_true, bne_iff_ne, beq_iff_eq]
    exact h2
theorem c_meB_loop (hS : YSh G ad y) {n : Nat} {a : Nat → aA} (hn : n ≤ 6) (hv : ∀ i, i < n → vA (a i)) (h4 : mI M (ad y) 4 = zn n) (ha : cYa ad M y n a) {i : Nat} (hi : i < n) : ∀ (d j f : Nat), j + d = n → d < f → (∀ k, k < j → ¬ (k ≠ i ∧ pl_ (a k) = pl_ (a i))) → m_X8_meetsAnother_2 G (ad y) (zn i) f M (zn j) = some (M, if meB a n i then 1 else 0) := by
  intro d
  induction d with
  | zero =>
    intro j f hj hf hno
    obtain ⟨f, rfl⟩ : ∃ g, f = g + 1 := ⟨f - 1, by omega⟩
    have hj : j = n := by omega
    subst hj
    rw [m_X8_meetsAnother_2, h4, if_pos (Int32.le_refl _), if_neg]
    · rfl
    · intro h
      obtain ⟨k, k1, k2⟩ := meB_t.mp h
      exact hno k k1 k2
  | succ d ih =>
    intro j f hj hf hno
    obtain ⟨f, rfl⟩ : ∃ g, f = g + 1 := ⟨f - 1, by omega⟩
    have go : (j = i ∨ pl_ (a j) ≠ pl_ (a i)) → m_X8_meetsAnother_44 G (ad y) (zn i) (fun M v2 => m_X8_meetsAnother_2 G (ad y) (zn i) f M v2) M (zn j) = some (M, if meB a n i then 1 else 0) := by
      intro h
      unfold m_X8_meetsAnother_44 o_bd
      rw [zn_one]
      refine ih (j + 1) f (by omega) (by omega) (fun k hk hq => ?_)
      by_cases e : k = j
      · subst e
        rcases h with h | h
        · exact hq.1 h
        · exact h hq.2
      · exact hno k (by omega) hq
    rw [m_X8_meetsAnother_2, h4, if_neg (by rw [zn_le (by omega) (by omega)]; omega), if_neg (by rw [show (6 : Int32) = zn 6 from rfl, zn_le (by omega) (by omega)]; omega)]
    by_cases e : j = i
    · rw [if_pos (by rw [e])]
      exact go (Or.inl e)
    · have p1 := pl_lt (hv i hi)
      have p2 := pl_lt (hv j (by omega))
      rw [if_neg (by rw [zn_inj (by omega) (by omega)]; exact e), zn_nat (by omega), zn_nat (by omega)]
      unfold o_rf o_ix
      rw [hS.2.2.2.1]
      dsimp only
      rw [hS.2.2.2.2.2.2.2.2.1, if_neg (show ¬ (zn j < 0 ∨ 6 ≤ (zn j).toNatClampNeg) from zn_in (by omega) (by decide)), hS.2.2.2.2.1 j (by omega)]
      dsimp only
      rw [c_under (ha j (by omega)).1]
      unfold o_cl
      dsimp only
      rw [if_neg (show ¬ (zn i < 0 ∨ 6 ≤ (zn i).toNatClampNeg) from zn_in (by omega) (by decide)), hS.2.2.2.2.1 i (by omega)]
      dsimp only
      rw [c_under (ha i hi).1]
      dsimp only
      have e2 : (zn (64 * an_y (a j) + an_x (a j)) = zn (64 * an_y (a i) + an_x (a i))) ↔ pl_ (a j) = pl_ (a i) := zn_inj (by unfold pl_ at p2; omega) (by unfold pl_ at p1; omega)
      by_cases g : pl_ (a j) = pl_ (a i)
      · rw [if_pos (e2.mpr g), if_pos (meB_t.mpr ⟨j, by omega, e, g⟩)]
        rfl
      · rw [if_neg (fun h => g (e2.mp h))]
        exact go (Or.inr g)
theorem c_meets (hS : YSh G ad y) {b : Nat} (hv : vY b Y) (hc : cY ad M y Y) {i : Nat} (hi : i < yd_n Y) : m_X8_meetsAnother G M (ad y) (zn i) = some (M, if meB (yd_a Y) (yd_n Y) i then 1 else 0) :=
  c_meB_loop hS hv.2.1 (fun i hi => (hv.2.2 i hi).1) hc.2.1.1 hc.2.2 hi (yd_n Y) 0 fu (by omega) (by have := hv.2.1; unfold fu; omega) (fun k hk => by omega)
theorem hwB_t {a : Nat → aA} {n : Nat} : hwB a n = true ↔ ∃ j, j < n ∧ anP (a j) ≠ 0 := by
  unfold hwB
  rw [any_t]
  constructor
  · rintro ⟨j, h1, h2⟩; exact ⟨j, h1, bne_iff_ne.mp h2⟩
  · rintro ⟨j, h1, h2⟩; exact ⟨j, h1, bne_iff_ne.mpr h2⟩
/-- an ant's period is read: the yard stays -/
theorem cY_ant1 (hA : Inj ad) {M' : mS} {i : Nat} {A : aA} (hn : yd_n Y ≤ 6) (hi : i < yd_n Y) (hc : cY ad M y Y) (h1 : cA ad M' (y + 5 + 2 * i) A) (h2 : Fr (Bk ad (y + 5 + 2 * i) (y + 5 + 2 * i + 2)) M M') : cY ad M' y (aAnt i A Y) := by
  refine ⟨cYc_Fr hA hc.1 h2 (by omega), cYf_Fr hA hc.2.1 h2 (by omega), fun k hk => ?_⟩
  show cA ad M' (y + 5 + 2 * k) (if k = i then A else yd_a Y k)
  by_cases e : k = i
  · rw [if_pos e, e]; exact h1
  · rw [if_neg e]
    exact cA_Fr hA (hc.2.2 k hk) h2 (by omega)
theorem cY_ant0 (hA : Inj ad) {M' : mS} {i : Nat} (hn : yd_n Y ≤ 6) (hi : i < yd_n Y) (hc : cY ad M y Y) (h1 : cA ad M' (y + 5 + 2 * i) (yd_a Y i)) (h2 : Fr (Bk ad (y + 5 + 2 * i) (y + 5 + 2 * i + 2)) M M') : cY ad M' y Y := by
  have := cY_ant1 hA hn hi hc h1 h2
  refine ⟨this.1, this.2.1, fun k hk => ?_⟩
  have h3 := this.2.2 k hk
  by_cases e : k = i
  · subst e; exact h1
  · rw [show yd_a (aAnt i (yd_a Y i) Y) k = yd_a Y k from if_neg e] at h3
    exact h3
end YardSpecs3
