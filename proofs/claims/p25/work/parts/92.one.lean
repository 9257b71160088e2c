/-! what a step does to one ant, and to its stone -/
section One
variable {P : aP} {Y : aY} {n N : Nat}
theorem aMvs_at {i : Nat} : ∀ d : Nat, yd_a (aMvs P Y (i + 1 + d)) i = yd_a (aMv P i (aMvs P Y i)) i := by
  intro d
  induction d with
  | zero => rfl
  | succ d ih =>
    have h := (aMv_f (P := P) (Y := aMvs P Y (i + 1 + d)) (i := i + 1 + d)).2.2.2 i (by omega)
    show yd_a (aMv P (i + 1 + d) (aMvs P Y (i + 1 + d))) i = _
    rw [h, ih]
theorem aMv_c {i p : Nat} (h : pl_ (yd_a Y i) ≠ p) : yd_c (aMv P i Y) p = yd_c Y p := by
  unfold aMv
  split
  · rfl
  · show cSet _ _ _ p = _
    unfold cSet
    rw [if_neg (fun e => h e.symm)]
theorem aMvs_c {i p : Nat} : ∀ d : Nat, (∀ j, i ≤ j → j < i + d → pl_ (yd_a Y j) ≠ p) → yd_c (aMvs P Y (i + d)) p = yd_c (aMvs P Y i) p := by
  intro d
  induction d with
  | zero => exact fun _ => rfl
  | succ d ih =>
    intro h
    have h1 := ih (fun j a1 a2 => h j a1 (by omega))
    have h2 := (aMvs_f (P := P) (Y := Y) (i + d)).2.2.2.2 (i + d) (Nat.le_refl _)
    show yd_c (aMv P (i + d) (aMvs P Y (i + d))) p = _
    rw [aMv_c (by rw [h2]; exact h (i + d) (by omega) (by omega)), h1]
/-- no other ant stands where ant i stands -/
def alB (Y : aY) (i : Nat) : Nat → Bool
  | 0 => true
  | j + 1 => alB Y i j && (j == i || pl_ (yd_a Y j) != pl_ (yd_a Y i))
theorem alB_t {i : Nat} : ∀ {k : Nat}, alB Y i k = true → ∀ j, j < k → j ≠ i → pl_ (yd_a Y j) ≠ pl_ (yd_a Y i) := by
  intro k
  induction k with
  | zero => exact fun _ j hj => absurd hj (Nat.not_lt_zero j)
  | succ k ih =>
    intro h j hj hne
    unfold alB at h
    rw [Bool.and_eq_true, Bool.or_eq_true, beq_iff_eq, bne_iff_ne] at h
    by_cases e : j = k
    · subst e
      exact h.2.resolve_left hne
    · exact ih h.1 j (by omega) hne
theorem step_one (hP : vP (yd_n Y) P) (hH : vH Y) {i : Nat} (hi : i < yd_n Y) : ∃ A0 : aA, (an_r A0 = an_r (yd_a Y i) ∧ an_x A0 = an_x (yd_a Y i) ∧ an_y A0 = an_y (yd_a Y i) ∧ an_t A0 = an_t (yd_a Y i)) ∧ (yd_k (aStep P Y) = yd_k Y → A0 = yd_a Y i) ∧ ((an_w A0 = 0 ∧ yd_a (aStep P Y) i = A0) ∨ (an_w A0 ≠ 0 ∧ ∃ c, yd_a (aStep P Y) i = anGo (pg_t P (an_r A0) (c % pg_z P (an_r A0))) A0 ∧ (yd_k (aStep P Y) = yd_k Y → alB Y i (yd_n Y) = true → c = yd_c Y (pl_ (yd_a Y i)) ∧ yd_c (aStep P Y) (pl_ (yd_a Y i)) = (c + 1) % pg_z P (an_r A0)))) := by
  obtain ⟨_, _, _, _, _, _, _, f8⟩ := aOrds_f hP hH (pg_o P) (Nat.le_refl _)
  have hid : yd_k (aStep P Y) = yd_k Y → aOrds P Y (pg_o P) = Y := fun z => by
    obtain ⟨_, _, _, _, _, _, a7, _⟩ := aOrds_f hP hH (pg_o P) (Nat.le_refl _)
    refine a7 ?_
    have e : yd_k (aStep P Y) = yd_k (aMvs P (aOrds P Y (pg_o P)) (yd_n Y)) := rfl
    rw [e, (aMvs_f (yd_n Y)).2.2.1] at z
    exact z
  have ea : ∀ j, yd_a (aStep P Y) j = yd_a (aMvs P (aOrds P Y (pg_o P)) (yd_n Y)) j := fun _ => rfl
  have ec : ∀ p, yd_c (aStep P Y) p = yd_c (aMvs P (aOrds P Y (pg_o P)) (yd_n Y)) p := fun _ => rfl
  have h1 := aMvs_at (P := P) (Y := aOrds P Y (pg_o P)) (i := i) (yd_n Y - (i + 1))
  rw [show i + 1 + (yd_n Y - (i + 1)) = yd_n Y by omega] at h1
  have h2 := (aMvs_f (P := P) (Y := aOrds P Y (pg_o P)) i).2.2.2.2 i (Nat.le_refl _)
  refine ⟨yd_a (aOrds P Y (pg_o P)) i, f8 i, fun z => by rw [hid z], ?_⟩
  by_cases e : an_w (yd_a (aOrds P Y (pg_o P)) i) = 0
  · refine Or.inl ⟨e, ?_⟩
    rw [ea, h1]
    unfold aMv
    rw [h2, if_pos e, h2]
  · refine Or.inr ⟨e, yd_c (aMvs P (aOrds P Y (pg_o P)) i) (pl_ (yd_a (aOrds P Y (pg_o P)) i)), ?_, fun z al => ?_⟩
    · rw [ea, h1]
      unfold aMv
      rw [h2, if_neg e]
      exact if_pos rfl
    · have hY := hid z
      rw [hY] at e h1 h2 ⊢
      have al2 := alB_t al
      have c1 := aMvs_c (P := P) (Y := Y) (i := 0) (p := pl_ (yd_a Y i)) i (fun j _ hj => al2 j (by omega) (by omega))
      rw [Nat.zero_add] at c1
      refine ⟨c1, ?_⟩
      have c2 := aMvs_c (P := P) (Y := Y) (i := i + 1) (p := pl_ (yd_a Y i)) (yd_n Y - (i + 1)) (fun j a1 a2 => al2 j (by omega) (by omega))
      rw [show i + 1 + (yd_n Y - (i + 1)) = yd_n Y by omega] at c2
      rw [ec, hY, c2]
      show yd_c (aMv P i (aMvs P Y i)) (pl_ (yd_a Y i)) = _
      unfold aMv
      rw [h2, if_neg e]
      show cSet _ _ _ _ = _
      unfold cSet
      rw [if_pos rfl]
/-- where it went -/
def wyN (s : Nat) : Nat := if s = 0 then 4032 else if s = 1 then 1 else if s = 2 then 64 else 63
theorem zn_sub3 {a b : Nat} (h : b ≤ a + 64) : zn a - zn b + (64 : Int32) = zn (a + 64 - b) := by
  have e : zn a - zn b + (64 : Int32) = zn (a + 64) - zn b := by
    rw [show zn (a + 64) = zn a + (64 : Int32) from (zn_add a 64).symm, Int32.sub_eq_add_neg, Int32.sub_eq_add_neg, Int32.add_assoc, Int32.add_comm (-zn b), Int32.add_assoc]
  rw [e, zn_sub h]
theorem far_t {x y s : Nat} (hx : x < 64) (hy : y < 64) (hs : s < 4) : (nx x s + 64 - x) % 64 + 64 * ((ny y s + 64 - y) % 64) = wyN s := by
  rcases (show s = 0 ∨ s = 1 ∨ s = 2 ∨ s = 3 by omega) with rfl | rfl | rfl | rfl
  · show (x + 64 - x) % 64 + 64 * (((y + 63) % 64 + 64 - y) % 64) = 4032
    omega
  · show ((x + 1) % 64 + 64 - x) % 64 + 64 * ((y + 64 - y) % 64) = 1
    omega
  · show (x + 64 - x) % 64 + 64 * (((y + 1) % 64 + 64 - y) % 64) = 64
    omega
  · show ((x + 63) % 64 + 64 - x) % 64 + 64 * ((y + 64 - y) % 64) = 63
    omega
/-- an ant of period 1 goes straight -/
theorem one_dir {A : aA} {t : Nat} (hH : 0 < an_n A → an_h A (an_n A - 1) = an_s A) (hp : anP (anGo t A) = 1) : an_s (anGo t A) = an_s A := by
  have h1 : pok (an_n A + 1) (an_h (anGo t A)) 1 = true := by
    have e : anP (anGo t A) = per (an_n A + 1) (an_h (anGo t A)) := rfl
    rw [e] at hp
    cases h : pok (an_n A + 1) (an_h (anGo t A)) 1 with
    | true => rfl
    | false =>
      exfalso
      have e2 : per (an_n A + 1) (an_h (anGo t A)) = perF (an_n A + 1) (an_h (anGo t A)) 119 2 := by
        show perF (an_n A + 1) (an_h (anGo t A)) (119 + 1) 1 = _
        rw [perF, h]
        rfl
      have key : ∀ f p : Nat, 2 ≤ p → perF (an_n A + 1) (an_h (anGo t A)) f p ≠ 1 := by
        intro f
        induction f with
        | zero => intro p _; exact Nat.zero_ne_one
        | succ f ih =>
          intro p h2
          rw [perF]
          split
          · omega
          · exact ih (p + 1) (by omega)
      rw [e2] at hp
      exact key 119 2 (Nat.le_refl _) hp
  unfold pok at h1
  rw [Bool.and_eq_true, Bool.and_eq_true] at h1
  have h3 := of_decide_eq_true h1.1
  have h4 := (rpB_t.mp h1.2.1) 0 (by decide)
  have hn : 0 < an_n A := by omega
  have e5 : an_h (anGo t A) (an_n A + 1 - (0 + 1)) = an_s (anGo t A) := by
    show (if an_n A + 1 - (0 + 1) = an_n A then _ else _) = _
    rw [if_pos (by omega)]
    rfl
  have e6 : an_h (anGo t A) (an_n A + 1 - (0 + 1) - 1) = an_h A (an_n A - 1) := by
    show (if an_n A + 1 - (0 + 1) - 1 = an_n A then _ else an_h A (an_n A + 1 - (0 + 1) - 1)) = _
    rw [if_neg (by omega), show an_n A + 1 - (0 + 1) - 1 = an_n A - 1 by omega]
  rw [e5, e6, hH hn] at h4
  exact h4
end One
