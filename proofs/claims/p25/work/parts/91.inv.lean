/-! what holds of yards on the law's way -/
/-- where a path ends, the ant faces -/
def vH (Y : aY) : Prop := ∀ i, i < yd_n Y → 0 < an_n (yd_a Y i) → an_h (yd_a Y i) (an_n (yd_a Y i) - 1) = an_s (yd_a Y i)
def vQ (N : Nat) (Y : aY) : Prop := yd_t Y ≤ N ∧ yd_m Y ≤ 100 * N ∧ yd_w Y ≤ 100000 * N ∧ yd_k Y ≤ 100 * N
def IV (P : aP) (n N : Nat) (Y : aY) : Prop := vY N Y ∧ vR P Y ∧ yd_n Y = n ∧ vQ N Y ∧ vH Y
theorem vQ_mono {N N' : Nat} {Y : aY} (h : vQ N Y) (hN : N ≤ N') : vQ N' Y := by
  obtain ⟨h1, h2, h3, h4⟩ := h
  exact ⟨by omega, by omega, by omega, by omega⟩
theorem IV_mono {P : aP} {n N N' : Nat} {Y : aY} (h : IV P n N Y) (hN : N ≤ N') : IV P n N' Y := ⟨vY_mono h.1 hN, h.2.1, h.2.2.1, vQ_mono h.2.2.2.1 hN, h.2.2.2.2⟩
section IvSec
variable {P : aP} {Y Y' : aY} {n N k : Nat}
theorem vH_ant {i : Nat} {A : aA} (h : vH Y) (hA : 0 < an_n A → an_h A (an_n A - 1) = an_s A) : vH (aAnt i A Y) := by
  intro j hj
  show 0 < an_n (if j = i then A else yd_a Y j) → an_h (if j = i then A else yd_a Y j) (an_n (if j = i then A else yd_a Y j) - 1) = an_s (if j = i then A else yd_a Y j)
  by_cases e : j = i
  · rw [if_pos e]; exact hA
  · rw [if_neg e]; exact h j hj
theorem aWash_w {f t : Nat} (ht : t < 64) : yd_w (aWash f t Y) ≤ yd_w Y + 4096 := by
  have := nz_le (c := yd_c Y) (b := 64 * f) (64 * (t + 1 - f))
  show yd_w Y + nz (yd_c Y) (64 * f) (64 * (t + 1 - f)) ≤ _
  have h2 : t + 1 - f ≤ 64 := by omega
  omega
theorem IV_wash {f t : Nat} (ht : t < 64) (h : IV P n N Y) : IV P n (N + 1) (aWash f t Y) := by
  obtain ⟨h1, h2, h3, ⟨q1, q2, q3, q4⟩, h5⟩ := h
  refine ⟨⟨cWash_lt h1.1, (vY_mono h1 (Nat.le_succ N)).2⟩, h2, h3, ⟨by show yd_t Y ≤ _; omega, by show yd_m Y ≤ _; omega, ?_, by show yd_k Y ≤ _; omega⟩, h5⟩
  have := aWash_w (Y := Y) (f := f) ht
  omega
theorem aCarry_id (h : (aCarry P k Y).2 = false) : (aCarry P k Y).1 = Y := by
  unfold aCarry at h ⊢
  by_cases e : pg_k P k = 214
  · rw [if_pos e] at h ⊢
    have h1 := of_decide_eq_false h
    have h2 : nz (yd_c Y) (64 * pg_f P k) (64 * (pg_s P k + 1 - pg_f P k)) = 0 := by omega
    have hz := nz_zero _ h2
    have hc : cWash (yd_c Y) (64 * pg_f P k) (64 * (pg_s P k + 1 - pg_f P k)) = yd_c Y := by
      funext x
      unfold cWash
      split
      · next hx => exact (hz x hx.1 hx.2).symm
      · rfl
    show (cWash (yd_c Y) (64 * pg_f P k) (64 * (pg_s P k + 1 - pg_f P k)), yd_n Y, yd_a Y, yd_t Y, yd_m Y, yd_w Y + nz (yd_c Y) (64 * pg_f P k) (64 * (pg_s P k + 1 - pg_f P k)), yd_k Y) = Y
    rw [hc, h2]
    rfl
  · rw [if_neg e] at h ⊢
    by_cases e2 : pg_k P k = 216
    · rw [if_pos e2] at h ⊢
      by_cases e3 : an_s (yd_a Y (pg_f P k)) = pg_s P k
      · rw [if_pos e3] at h ⊢
      · rw [if_neg e3] at h
        exact absurd (show true = false from h) (by decide)
    · rw [if_neg e2] at h ⊢
      have h1 : an_w (yd_a Y (pg_f P k)) = if pg_k P k = 218 then 1 else 0 := Decidable.not_not.mp (of_decide_eq_false h)
      show aAnt (pg_f P k) (anWalk (if pg_k P k = 218 then 1 else 0) (yd_a Y (pg_f P k))) Y = Y
      rw [← h1]
      have e4 : (fun j => if j = pg_f P k then anWalk (an_w (yd_a Y (pg_f P k))) (yd_a Y (pg_f P k)) else yd_a Y j) = yd_a Y := by
        funext j
        by_cases e5 : j = pg_f P k
        · rw [if_pos e5, e5]; rfl
        · rw [if_neg e5]
      show (yd_c Y, yd_n Y, (fun j => if j = pg_f P k then anWalk (an_w (yd_a Y (pg_f P k))) (yd_a Y (pg_f P k)) else yd_a Y j), yd_t Y, yd_m Y, yd_w Y, yd_k Y) = Y
      rw [e4]
theorem aCarry_k : yd_k (aCarry P k Y).1 = yd_k Y := by
  unfold aCarry
  split
  · rfl
  · split
    · split <;> rfl
    · rfl
theorem aCarry_m : yd_m (aCarry P k Y).1 = yd_m Y := by
  unfold aCarry
  split
  · rfl
  · split
    · split <;> rfl
    · rfl
theorem aCarry_w (hP : vOrd (yd_n Y) (pg_k P k) (pg_f P k) (pg_s P k)) : yd_w Y ≤ yd_w (aCarry P k Y).1 ∧ yd_w (aCarry P k Y).1 ≤ yd_w Y + 4096 := by
  unfold aCarry
  split
  · next e =>
    have : pg_s P k < 64 := by unfold vOrd at hP; omega
    exact ⟨Nat.le_add_right _ _, aWash_w this⟩
  · split
    · split
      · exact ⟨Nat.le_refl _, Nat.le_add_right _ _⟩
      · exact ⟨Nat.le_refl _, Nat.le_add_right _ _⟩
    · exact ⟨Nat.le_refl _, Nat.le_add_right _ _⟩
theorem aCarry_h (h : vH Y) : vH (aCarry P k Y).1 := by
  unfold aCarry
  split
  · exact h
  · split
    · split
      · exact h
      · exact vH_ant h (fun z => absurd z (Nat.lt_irrefl 0))
    · intro j hj
      show 0 < an_n (if j = pg_f P k then _ else yd_a Y j) → an_h (if j = pg_f P k then _ else yd_a Y j) (an_n (if j = pg_f P k then _ else yd_a Y j) - 1) = an_s (if j = pg_f P k then _ else yd_a Y j)
      by_cases e : j = pg_f P k
      · rw [if_pos e, ← e]; exact h j hj
      · rw [if_neg e]; exact h j hj
theorem aCarry_r {i : Nat} : an_r (yd_a (aCarry P k Y).1 i) = an_r (yd_a Y i) ∧ an_x (yd_a (aCarry P k Y).1 i) = an_x (yd_a Y i) ∧ an_y (yd_a (aCarry P k Y).1 i) = an_y (yd_a Y i) ∧ an_t (yd_a (aCarry P k Y).1 i) = an_t (yd_a Y i) := by
  have key : ∀ (j : Nat) (A : aA), an_r A = an_r (yd_a Y j) → an_x A = an_x (yd_a Y j) → an_y A = an_y (yd_a Y j) → an_t A = an_t (yd_a Y j) → an_r (yd_a (aAnt j A Y) i) = an_r (yd_a Y i) ∧ an_x (yd_a (aAnt j A Y) i) = an_x (yd_a Y i) ∧ an_y (yd_a (aAnt j A Y) i) = an_y (yd_a Y i) ∧ an_t (yd_a (aAnt j A Y) i) = an_t (yd_a Y i) := by
    intro j A a1 a2 a3 a4
    show an_r (if i = j then A else yd_a Y i) = _ ∧ an_x (if i = j then A else yd_a Y i) = _ ∧ an_y (if i = j then A else yd_a Y i) = _ ∧ an_t (if i = j then A else yd_a Y i) = _
    by_cases e : i = j
    · rw [if_pos e, e]; exact ⟨a1, a2, a3, a4⟩
    · rw [if_neg e]; exact ⟨rfl, rfl, rfl, rfl⟩
  unfold aCarry
  split
  · exact ⟨rfl, rfl, rfl, rfl⟩
  · split
    · split
      · exact ⟨rfl, rfl, rfl, rfl⟩
      · exact key _ _ rfl rfl rfl rfl
    · exact key _ _ rfl rfl rfl rfl
/-- an order: all that the law asks of it -/
theorem aOrd_f (hP : vOrd (yd_n Y) (pg_k P k) (pg_f P k) (pg_s P k)) (hH : vH Y) : vH (aOrd P k Y) ∧ yd_m (aOrd P k Y) = yd_m Y ∧ yd_w Y ≤ yd_w (aOrd P k Y) ∧ yd_w (aOrd P k Y) ≤ yd_w Y + 4096 ∧ yd_k Y ≤ yd_k (aOrd P k Y) ∧ yd_k (aOrd P k Y) ≤ yd_k Y + 1 ∧ (yd_k (aOrd P k Y) = yd_k Y → aOrd P k Y = Y) ∧ ∀ i, an_r (yd_a (aOrd P k Y) i) = an_r (yd_a Y i) ∧ an_x (yd_a (aOrd P k Y) i) = an_x (yd_a Y i) ∧ an_y (yd_a (aOrd P k Y) i) = an_y (yd_a Y i) ∧ an_t (yd_a (aOrd P k Y) i) = an_t (yd_a Y i) := by
  have w := aCarry_w hP
  unfold aOrd
  by_cases e : (evL Y (pg_T P k) []).headD 0 = 0
  · rw [if_pos e]
    exact ⟨hH, rfl, Nat.le_refl _, Nat.le_add_right _ _, Nat.le_refl _, Nat.le_add_right _ _, fun _ => rfl, fun i => ⟨rfl, rfl, rfl, rfl⟩⟩
  · rw [if_neg e]
    by_cases e2 : (aCarry P k Y).2 = true
    · rw [if_pos e2]
      refine ⟨aCarry_h hH, aCarry_m, w.1, w.2, ?_, ?_, fun z => ?_, fun i => aCarry_r⟩
      · show yd_k Y ≤ yd_k (aCarry P k Y).1 + 1
        rw [aCarry_k]; omega
      · show yd_k (aCarry P k Y).1 + 1 ≤ yd_k Y + 1
        rw [aCarry_k]; omega
      · have z2 : yd_k (aCarry P k Y).1 + 1 = yd_k Y := z
        rw [aCarry_k] at z2
        omega
    · have e3 : (aCarry P k Y).2 = false := by
        cases h : (aCarry P k Y).2 with
        | false => rfl
        | true => exact absurd h e2
      rw [if_neg e2, aCarry_id e3]
      exact ⟨hH, rfl, Nat.le_refl _, Nat.le_add_right _ _, Nat.le_refl _, Nat.le_add_right _ _, fun _ => rfl, fun i => ⟨rfl, rfl, rfl, rfl⟩⟩
theorem aOrds_f (hP : vP (yd_n Y) P) (hH : vH Y) : ∀ k : Nat, k ≤ pg_o P → vH (aOrds P Y k) ∧ yd_m (aOrds P Y k) = yd_m Y ∧ yd_w Y ≤ yd_w (aOrds P Y k) ∧ yd_w (aOrds P Y k) ≤ yd_w Y + 4096 * k ∧ yd_k Y ≤ yd_k (aOrds P Y k) ∧ yd_k (aOrds P Y k) ≤ yd_k Y + k ∧ (yd_k (aOrds P Y k) = yd_k Y → aOrds P Y k = Y) ∧ ∀ i, an_r (yd_a (aOrds P Y k) i) = an_r (yd_a Y i) ∧ an_x (yd_a (aOrds P Y k) i) = an_x (yd_a Y i) ∧ an_y (yd_a (aOrds P Y k) i) = an_y (yd_a Y i) ∧ an_t (yd_a (aOrds P Y k) i) = an_t (yd_a Y i) := by
  intro k
  induction k with
  | zero => exact fun _ => ⟨hH, rfl, Nat.le_refl _, Nat.le_refl _, Nat.le_refl _, Nat.le_refl _, fun _ => rfl, fun i => ⟨rfl, rfl, rfl, rfl⟩⟩
  | succ k ih =>
    intro hk
    obtain ⟨a1, a2, a3, a4, a5, a6, a7, a8⟩ := ih (by omega)
    have hO := (hP.2.2.2.2.2 k (by omega)).1
    have hn := aOrds_n (P := P) (Y := Y) k
    obtain ⟨b1, b2, b3, b4, b5, b6, b7, b8⟩ := aOrd_f (Y := aOrds P Y k) (k := k) (P := P) (by rw [hn]; exact hO) a1
    have e : aOrds P Y (k + 1) = aOrd P k (aOrds P Y k) := rfl
    rw [e]
    refine ⟨b1, b2.trans a2, Nat.le_trans a3 b3, Nat.le_trans b4 (Nat.le_trans (Nat.add_le_add_right a4 4096) (Nat.le_of_eq (by rw [Nat.mul_succ, Nat.add_assoc]))), Nat.le_trans a5 b5, Nat.le_trans b6 (Nat.add_le_add_right a6 1), fun z => ?_, fun i => ?_⟩
    · have z1 : yd_k (aOrds P Y k) = yd_k Y := Nat.le_antisymm (Nat.le_trans b5 (Nat.le_of_eq z)) a5
      have z2 := a7 z1
      have z3 := b7 (z.trans z1.symm)
      rw [z3, z2]
    · obtain ⟨c1, c2, c3, c4⟩ := a8 i
      obtain ⟨d1, d2, d3, d4⟩ := b8 i
      exact ⟨d1.trans c1, d2.trans c2, d3.trans c3, d4.trans c4⟩
theorem mt1_le {a : Nat → aA} {i : Nat} : ∀ j : Nat, mt1 a i j ≤ j := by
  intro j
  induction j with
  | zero => exact Nat.le_refl 0
  | succ j ih =>
    show mt1 a i j + (if pl_ (a i) = pl_ (a j) then 1 else 0) ≤ j + 1
    split <;> omega
theorem mtA_le {a : Nat → aA} : ∀ i : Nat, mtA a i ≤ i * i := by
  intro i
  induction i with
  | zero => exact Nat.le_refl 0
  | succ i ih =>
    have := mt1_le (a := a) (i := i) i
    show mtA a i + mt1 a i i ≤ (i + 1) * (i + 1)
    have : (i + 1) * (i + 1) = i * i + i + i + 1 := by rw [Nat.add_mul, Nat.mul_add]; omega
    omega
theorem aMv_f {i : Nat} : yd_m (aMv P i Y) = yd_m Y ∧ yd_w (aMv P i Y) = yd_w Y ∧ yd_k (aMv P i Y) = yd_k Y ∧ ∀ j, j ≠ i → yd_a (aMv P i Y) j = yd_a Y j := by
  unfold aMv
  split
  · exact ⟨rfl, rfl, rfl, fun _ _ => rfl⟩
  · exact ⟨rfl, rfl, rfl, fun j hj => if_neg hj⟩
theorem aMv_h {i : Nat} (h : vH Y) : vH (aMv P i Y) := by
  unfold aMv
  split
  · exact h
  · refine vH_ant (Y := aSet _ _ Y) h (fun _ => ?_)
    show (if an_n (yd_a Y i) + 1 - 1 = an_n (yd_a Y i) then _ else _) = _
    rw [if_pos (by omega)]
    rfl
theorem aMvs_f : ∀ i : Nat, yd_m (aMvs P Y i) = yd_m Y ∧ yd_w (aMvs P Y i) = yd_w Y ∧ yd_k (aMvs P Y i) = yd_k Y ∧ (vH Y → vH (aMvs P Y i)) ∧ ∀ j, i ≤ j → yd_a (aMvs P Y i) j = yd_a Y j := by
  intro i
  induction i with
  | zero => exact ⟨rfl, rfl, rfl, id, fun _ _ => rfl⟩
  | succ i ih =>
    obtain ⟨a1, a2, a3, a4, a5⟩ := ih
    obtain ⟨b1, b2, b3, b4⟩ := aMv_f (P := P) (Y := aMvs P Y i) (i := i)
    exact ⟨b1.trans a1, b2.trans a2, b3.trans a3, fun z => aMv_h (a4 z), fun j hj => (b4 j (by omega)).trans (a5 j (by omega))⟩
/-- numbers of a step -/
theorem aStep_f (hP : vP (yd_n Y) P) (hH : vH Y) (h6 : yd_n Y ≤ 6) : vH (aStep P Y) ∧ yd_m Y ≤ yd_m (aStep P Y) ∧ yd_m (aStep P Y) ≤ yd_m Y + 36 ∧ yd_w Y ≤ yd_w (aStep P Y) ∧ yd_w (aStep P Y) ≤ yd_w Y + 81920 ∧ yd_k Y ≤ yd_k (aStep P Y) ∧ yd_k (aStep P Y) ≤ yd_k Y + pg_o P ∧ (yd_k (aStep P Y) = yd_k Y → aOrds P Y (pg_o P) = Y) := by
  obtain ⟨a1, a2, a3, a4, a5, a6, a7, _⟩ := aOrds_f hP hH (pg_o P) (Nat.le_refl _)
  obtain ⟨b1, b2, b3, b4, _⟩ := aMvs_f (P := P) (Y := aOrds P Y (pg_o P)) (yd_n Y)
  have ho := hP.2.2.2.1
  have hm := mtA_le (a := yd_a (aMvs P (aOrds P Y (pg_o P)) (yd_n Y))) (yd_n Y)
  have h36 : yd_n Y * yd_n Y ≤ 36 := Nat.mul_le_mul h6 h6
  have em : yd_m (aStep P Y) = yd_m (aMvs P (aOrds P Y (pg_o P)) (yd_n Y)) + mtA (yd_a (aMvs P (aOrds P Y (pg_o P)) (yd_n Y))) (yd_n (aMvs P (aOrds P Y (pg_o P)) (yd_n Y))) := rfl
  have hn : yd_n (aMvs P (aOrds P Y (pg_o P)) (yd_n Y)) = yd_n Y := by rw [aMvs_n, aOrds_n]
  have ew : yd_w (aStep P Y) = yd_w (aMvs P (aOrds P Y (pg_o P)) (yd_n Y)) := rfl
  have ek : yd_k (aStep P Y) = yd_k (aMvs P (aOrds P Y (pg_o P)) (yd_n Y)) := rfl
  rw [hn] at em
  refine ⟨b4 a1, by omega, by omega, by omega, by omega, by omega, by omega, fun z => a7 (by omega)⟩
theorem IV_step (hP : vP n P) (h : IV P n N Y) : IV P n (N + 1) (aStep P Y) := by
  obtain ⟨h1, h2, h3, ⟨q1, q2, q3, q4⟩, h5⟩ := h
  have hP2 : vP (yd_n Y) P := by rw [h3]; exact hP
  have hv := aStep_v hP2 h1 h2
  obtain ⟨f1, f2, f3, f4, f5, f6, f7, _⟩ := aStep_f hP2 h5 h1.2.1
  have ho := hP.2.2.2.1
  refine ⟨hv.1, hv.2, by rw [aStep_n]; exact h3, ⟨by rw [aStep_t]; omega, by omega, by omega, by omega⟩, f1⟩
theorem IV_steps (hP : vP n P) (h : IV P n N Y) : ∀ k : Nat, IV P n (N + k) (aSteps P Y k) := by
  intro k
  induction k with
  | zero => exact h
  | succ k ih => exact IV_step hP ih
theorem IV_act (hP : vP n P) (h : IV P n N Y) (ha : AcR P Y Y') : IV P n (N + 60) Y' := by
  have h' := IV_mono h (show N ≤ N + 60 by omega)
  obtain ⟨h1, h2, h3, h4, h5⟩ := h'
  rcases ha with ⟨p, v, hv, rfl⟩ | ⟨f, t, _, ht, rfl⟩ | ⟨i, s, hi, hs, rfl⟩ | ⟨i, w, hi, hw, rfl⟩ | ⟨i, x, y, hi, hx, hy, rfl⟩ | ⟨k, hk, rfl⟩
  · exact ⟨⟨cSet_lt h1.1 hv, h1.2⟩, h2, h3, h4, h5⟩
  · exact IV_mono (IV_wash ht h) (by omega)
  · exact ⟨vY_ant h1 (Nat.le_refl _) (vA_face (h1.2.2 i hi).1 hs) (Nat.zero_le _), vR_ant h2 (h2 i hi), h3, h4, vH_ant h5 (fun z => absurd z (Nat.lt_irrefl 0))⟩
  · exact ⟨vY_ant h1 (Nat.le_refl _) (vA_walk (h1.2.2 i hi).1 hw) (h1.2.2 i hi).2, vR_ant h2 (h2 i hi), h3, h4, vH_ant h5 (fun z => h5 i hi z)⟩
  · exact ⟨vY_ant h1 (Nat.le_refl _) (vA_move (h1.2.2 i hi).1 hx hy) (Nat.zero_le _), vR_ant h2 (h2 i hi), h3, h4, vH_ant h5 (fun z => absurd z (Nat.lt_irrefl 0))⟩
  · exact IV_mono (IV_steps hP h k) (by omega)
end IvSec
