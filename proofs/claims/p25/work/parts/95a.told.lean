/-! what is told of each ant -/
theorem per_ne {n : Nat} {h : Nat → Nat} (hp : per n h ≠ 0) : sE n h (per n h) ≠ 0 ∨ sS n h (per n h) ≠ 0 := by
  have key : ∀ f p : Nat, perF n h f p ≠ 0 → pok n h (perF n h f p) = true := by
    intro f
    induction f with
    | zero => intro p hp; exact absurd rfl hp
    | succ f ih =>
      intro p
      unfold perF
      split
      · next hk => intro _; exact hk
      · exact ih (p + 1)
  have hk := key 120 1 hp
  unfold pok at hk
  rw [Bool.and_eq_true, Bool.and_eq_true, Bool.or_eq_true, bne_iff_ne, bne_iff_ne] at hk
  exact hk.2.2
theorem led_le {n : Nat} {h : Nat → Nat} : ∀ p : Nat, sE n h p + sS n h p ≤ p ∧ sE n h p - sS n h p ≤ p ∧ -sE n h p + sS n h p ≤ p ∧ -sE n h p - sS n h p ≤ p := by
  intro p
  induction p with
  | zero => exact ⟨Int.le_refl _, Int.le_refl _, Int.le_refl _, Int.le_refl _⟩
  | succ p ih =>
    have hd : (dE (h (n - (p + 1))) = 0 ∧ -1 ≤ dS (h (n - (p + 1))) ∧ dS (h (n - (p + 1))) ≤ 1) ∨ (dS (h (n - (p + 1))) = 0 ∧ -1 ≤ dE (h (n - (p + 1))) ∧ dE (h (n - (p + 1))) ≤ 1) := by
      generalize h (n - (p + 1)) = x
      unfold dE dS
      by_cases e1 : x = 1
      · subst e1; exact Or.inr (by decide)
      · by_cases e3 : x = 3
        · subst e3; exact Or.inr (by decide)
        · rw [if_neg e1, if_neg e3]
          refine Or.inl ⟨rfl, ?_⟩
          split
          · decide
          · split <;> decide
    unfold sE sS
    generalize dE (h (n - (p + 1))) = a at hd ⊢
    generalize dS (h (n - (p + 1))) = b at hd ⊢
    obtain ⟨i1, i2, i3, i4⟩ := ih
    refine ⟨?_, ?_, ?_, ?_⟩ <;> omega
theorem absI {e : Int} (h1 : -200 ≤ e) (h2 : e ≤ 200) : (if (0 : Int32) ≤ Int32.ofInt e then Int32.ofInt e else 0 - Int32.ofInt e) = Int32.ofInt (if 0 ≤ e then e else -e) := by
  have ht : (Int32.ofInt e).toInt = e := Int32.toInt_ofInt_of_le (by omega) (by omega)
  by_cases k : 0 ≤ e
  · rw [if_pos k, if_pos (by rw [Int32.le_iff_toInt_le, ht]; exact k)]
  · rw [if_neg k, if_neg (by rw [Int32.le_iff_toInt_le, ht]; exact k)]
    have h3 : Int32.ofInt (-e) + Int32.ofInt e = 0 := by rw [← n_add, show -e + e = 0 by omega]; rfl
    have h4 : Int32.ofInt (-e) = 0 - Int32.ofInt e := by rw [← h3]; exact (Int32.add_sub_cancel _ _).symm
    exact h4.symm
/-- paths are no longer than steps -/
def vN (N : Nat) (Y : aY) : Prop := ∀ i, i < yd_n Y → an_n (yd_a Y i) ≤ an_t (yd_a Y i) ∧ an_t (yd_a Y i) ≤ N
section VnSec
variable {P : aP} {Y Y' : aY} {n N k : Nat}
theorem vN_mono {N' : Nat} (h : vN N Y) (hN : N ≤ N') : vN N' Y := fun i hi => ⟨(h i hi).1, Nat.le_trans (h i hi).2 hN⟩
theorem vN_ant {i : Nat} {A : aA} (h : vN N Y) (h1 : an_n A ≤ an_t A) (h2 : an_t A ≤ N) : vN N (aAnt i A Y) := by
  intro j hj
  show an_n (if j = i then A else yd_a Y j) ≤ an_t (if j = i then A else yd_a Y j) ∧ an_t (if j = i then A else yd_a Y j) ≤ N
  by_cases e : j = i
  · rw [if_pos e]; exact ⟨h1, h2⟩
  · rw [if_neg e]; exact h j hj
theorem vN_carry (hP : vOrd (yd_n Y) (pg_k P k) (pg_f P k) (pg_s P k)) (h : vN N Y) : vN N (aCarry P k Y).1 := by
  unfold aCarry
  split
  · exact h
  · next e =>
    have hf : pg_f P k < yd_n Y := by unfold vOrd at hP; omega
    split
    · split
      · exact h
      · exact vN_ant h (Nat.zero_le _) (h _ hf).2
    · exact vN_ant h (h _ hf).1 (h _ hf).2
theorem vN_ord (hP : vOrd (yd_n Y) (pg_k P k) (pg_f P k) (pg_s P k)) (h : vN N Y) : vN N (aOrd P k Y) := by
  unfold aOrd
  split
  · exact h
  · split
    · exact vN_carry hP h
    · exact vN_carry hP h
theorem vN_ords (hP : vP (yd_n Y) P) (h : vN N Y) : ∀ k : Nat, k ≤ pg_o P → vN N (aOrds P Y k) := by
  intro k
  induction k with
  | zero => exact fun _ => h
  | succ k ih =>
    intro hk
    have hn := aOrds_n (P := P) (Y := Y) k
    exact vN_ord (Y := aOrds P Y k) (by rw [hn]; exact (hP.2.2.2.2.2 k (by omega)).1) (ih (by omega))
theorem vN_mvs (h : vN N Y) : ∀ i : Nat, i ≤ yd_n Y → vN (N + 1) (aMvs P Y i) := by
  intro i
  induction i with
  | zero => exact fun _ => vN_mono h (Nat.le_succ _)
  | succ i ih =>
    intro hi
    have h1 := ih (by omega)
    have h2 := (aMvs_f (P := P) (Y := Y) i).2.2.2.2 i (Nat.le_refl _)
    have h3 := h i (by omega)
    show vN (N + 1) (aMv P i (aMvs P Y i))
    unfold aMv
    split
    · exact h1
    · refine vN_ant (Y := aSet _ _ (aMvs P Y i)) h1 ?_ ?_
      · show an_n (yd_a (aMvs P Y i) i) + 1 ≤ an_t (yd_a (aMvs P Y i) i) + 1
        rw [h2]; omega
      · show an_t (yd_a (aMvs P Y i) i) + 1 ≤ N + 1
        rw [h2]; omega
theorem vN_step (hP : vP (yd_n Y) P) (h : vN N Y) : vN (N + 1) (aStep P Y) := by
  have h1 := vN_ords hP h (pg_o P) (Nat.le_refl _)
  have hn := aOrds_n (P := P) (Y := Y) (pg_o P)
  exact vN_mvs (Y := aOrds P Y (pg_o P)) h1 (yd_n Y) (by rw [hn]; exact Nat.le_refl _)
theorem vN_steps (hP : vP (yd_n Y) P) (h : vN N Y) : ∀ k : Nat, vN (N + k) (aSteps P Y k) := by
  intro k
  induction k with
  | zero => exact h
  | succ k ih => exact vN_step (Y := aSteps P Y k) (by rw [aSteps_n]; exact hP) ih
theorem vN_act (hP : vP (yd_n Y) P) (h : vN N Y) (ha : AcR P Y Y') : vN (N + 60) Y' := by
  have h' := vN_mono h (show N ≤ N + 60 by omega)
  rcases ha with ⟨p, v, hv, rfl⟩ | ⟨f, t, _, ht, rfl⟩ | ⟨i, s, hi, hs, rfl⟩ | ⟨i, w, hi, hw, rfl⟩ | ⟨i, x, y, hi, hx, hy, rfl⟩ | ⟨k, hk, rfl⟩
  · exact h'
  · exact h'
  · exact vN_ant h' (Nat.zero_le _) (h' i hi).2
  · exact vN_ant h' (h' i hi).1 (h' i hi).2
  · exact vN_ant h' (Nat.zero_le _) (h' i hi).2
  · exact vN_mono (vN_steps hP h k) (by omega)
end VnSec
section Told
variable {G G' : gS} {M M' : mS} {rl rl' : Nat → Nat} {ad : Nat → Nat} {o : Nat} {S : sA} {P : aP} {q : Nat → Nat → Nat} {Y : aY} {T : Nat → Nat} {ea : Int32} {u : uS} {tq sq n N : Nat} {tr : Nat → Nat} {D : va_G} {post : gS → mS → Int32 → Prop}
/-- ants ahead of i are told, of ant i the first k -/
def TL (M : mS) (sq : Nat) (tr : Nat → Nat) (Y : aY) (i k : Nat) : Prop := (∀ j, j < i → (∀ w, w < 9 → mI M (tr j) w = anAns (yd_a Y j) w) ∧ mI M sq j = zn (yd_c Y (pl_ (yd_a Y j)))) ∧ ∀ w, w < k → mI M (tr i) w = anAns (yd_a Y i) w
theorem l_398 (hvN : vN 100000 Y) (hn6 : yd_n Y ≤ 6) (hT : LT G rl tq sq tr (yd_n Y)) {i : Nat} (hi : i < yd_n Y) (hL : ∀ w, w < 9 → mI M (tr i) w = anAns (yd_a Y i) w) {kb45 : uS → gS → mS → Nat → Nat → Int32 → Int32 → Prop} {kb : uS → gS → mS → Nat → Nat → Int32 → Int32 → Int64 → Int32 → Nat → Nat → Int32 → Int32 → Prop} {v2 v3 : Nat} {v4 v5 v11 v14 s0 s1 : Int32} {v7 : Int64} (es : s0 = s1) (hk : kb u G M v2 v3 v4 v5 v7 v11 tq sq v14 (zn (i + 1))) : nb_L_law_398 D kb45 kb post u G M v2 v3 v4 v5 v7 v11 tq sq v14 (zn i) s0 s1 := by
  have p1 : anP (yd_a Y i) ≤ 120 := anP_le
  have p3 : 3 * anP (yd_a Y i) ≤ an_n (yd_a Y i) := per_n
  obtain ⟨n1, n2⟩ := hvN i hi
  unfold nb_L_law_398
  have n7 : Int32.toNatClampNeg (7 : Int32) = 7 := by decide
  have n8 : Int32.toNatClampNeg (8 : Int32) = 8 := by decide
  rw [n6_, n7, n8, nat_5]
  refine i_t es (i_tl hT hn6 hi (w := 7) (by decide) rfl (i_tl hT hn6 hi (w := 8) (by decide) rfl (i_tl hT hn6 hi (w := 6) (by decide) rfl ?_)))
  rw [hL 6 (by decide), hL 7 (by decide), hL 8 (by decide)]
  have eE : anAns (yd_a Y i) 7 = Int32.ofInt (sE (an_n (yd_a Y i)) (an_h (yd_a Y i)) (anP (yd_a Y i))) := rfl
  have eS : anAns (yd_a Y i) 8 = Int32.ofInt (sS (an_n (yd_a Y i)) (an_h (yd_a Y i)) (anP (yd_a Y i))) := rfl
  have b1 := sE_le (n := an_n (yd_a Y i)) (h := an_h (yd_a Y i)) (anP (yd_a Y i))
  have b2 := sS_le (n := an_n (yd_a Y i)) (h := an_h (yd_a Y i)) (anP (yd_a Y i))
  have b3 := led_le (n := an_n (yd_a Y i)) (h := an_h (yd_a Y i)) (anP (yd_a Y i))
  rw [eE, eS, absI (by omega) (by omega), absI (by omega) (by omega), ← n_add]
  have hx : (if 0 ≤ sE (an_n (yd_a Y i)) (an_h (yd_a Y i)) (anP (yd_a Y i)) then sE (an_n (yd_a Y i)) (an_h (yd_a Y i)) (anP (yd_a Y i)) else -sE (an_n (yd_a Y i)) (an_h (yd_a Y i)) (anP (yd_a Y i))) + (if 0 ≤ sS (an_n (yd_a Y i)) (an_h (yd_a Y i)) (anP (yd_a Y i)) then sS (an_n (yd_a Y i)) (an_h (yd_a Y i)) (anP (yd_a Y i)) else -sS (an_n (yd_a Y i)) (an_h (yd_a Y i)) (anP (yd_a Y i))) ≤ (anP (yd_a Y i) : Int) ∧ 0 ≤ (if 0 ≤ sE (an_n (yd_a Y i)) (an_h (yd_a Y i)) (anP (yd_a Y i)) then sE (an_n (yd_a Y i)) (an_h (yd_a Y i)) (anP (yd_a Y i)) else -sE (an_n (yd_a Y i)) (an_h (yd_a Y i)) (anP (yd_a Y i))) + (if 0 ≤ sS (an_n (yd_a Y i)) (an_h (yd_a Y i)) (anP (yd_a Y i)) then sS (an_n (yd_a Y i)) (an_h (yd_a Y i)) (anP (yd_a Y i)) else -sS (an_n (yd_a Y i)) (an_h (yd_a Y i)) (anP (yd_a Y i))) := by
    split <;> split <;> omega
  generalize (if 0 ≤ sE (an_n (yd_a Y i)) (an_h (yd_a Y i)) (anP (yd_a Y i)) then sE (an_n (yd_a Y i)) (an_h (yd_a Y i)) (anP (yd_a Y i)) else -sE (an_n (yd_a Y i)) (an_h (yd_a Y i)) (anP (yd_a Y i))) + (if 0 ≤ sS (an_n (yd_a Y i)) (an_h (yd_a Y i)) (anP (yd_a Y i)) then sS (an_n (yd_a Y i)) (an_h (yd_a Y i)) (anP (yd_a Y i)) else -sS (an_n (yd_a Y i)) (an_h (yd_a Y i)) (anP (yd_a Y i))) = z at hx ⊢
  refine i_f (fun hz => ?_) (i_tl hT hn6 hi (w := 6) (by decide) rfl (i_tl hT hn6 hi (w := 5) (by decide) rfl (i_t ?_ (i_bde (zn_one i) hk))))
  · have hz2 : zn (anP (yd_a Y i)) < Int32.ofInt z := hz
    rw [Int32.lt_iff_toInt_lt, zn_toInt (by omega), Int32.toInt_ofInt_of_le (by omega) (by omega)] at hz2
    omega
  · rw [hL 5 (by decide), hL 6 (by decide)]
    show (3 : Int32) * zn (anP (yd_a Y i)) ≤ zn (an_t (yd_a Y i))
    rw [show (3 : Int32) * zn (anP (yd_a Y i)) = zn (3 * anP (yd_a Y i)) from zn_mul 3 _, zn_le (by omega) (by omega)]
    omega
theorem l_371 (hvN : vN 100000 Y) (hn6 : yd_n Y ≤ 6) (hT : LT G rl tq sq tr (yd_n Y)) {i : Nat} (hi : i < yd_n Y) (hL : ∀ w, w < 9 → mI M (tr i) w = anAns (yd_a Y i) w) {kb45 : uS → gS → mS → Nat → Nat → Int32 → Int32 → Prop} {kb : uS → gS → mS → Nat → Nat → Int32 → Int32 → Int64 → Int32 → Nat → Nat → Int32 → Int32 → Prop} {v2 v3 : Nat} {v4 v5 v11 v14 s0 : Int32} {v7 : Int64} (es : (s0 = 0 ∧ anP (yd_a Y i) = 0) ∨ (s0 = 1 ∧ anP (yd_a Y i) ≠ 0)) (hk : kb u G M v2 v3 v4 v5 v7 v11 tq sq v14 (zn (i + 1))) : nb_L_law_371 D kb45 kb post u G M v2 v3 v4 v5 v7 v11 tq sq v14 (zn i) s0 := by
  have p1 : anP (yd_a Y i) ≤ 120 := anP_le
  have eE : anAns (yd_a Y i) 7 = Int32.ofInt (sE (an_n (yd_a Y i)) (an_h (yd_a Y i)) (anP (yd_a Y i))) := rfl
  have eS : anAns (yd_a Y i) 8 = Int32.ofInt (sS (an_n (yd_a Y i)) (an_h (yd_a Y i)) (anP (yd_a Y i))) := rfl
  have b1 := sE_le (n := an_n (yd_a Y i)) (h := an_h (yd_a Y i)) (anP (yd_a Y i))
  have b2 := sS_le (n := an_n (yd_a Y i)) (h := an_h (yd_a Y i)) (anP (yd_a Y i))
  unfold nb_L_law_371 nb_L_law_393
  have n7 : Int32.toNatClampNeg (7 : Int32) = 7 := by decide
  have n8 : Int32.toNatClampNeg (8 : Int32) = 8 := by decide
  rw [n7, n8]
  have one : (Int32.ofInt (sE (an_n (yd_a Y i)) (an_h (yd_a Y i)) (anP (yd_a Y i))) ≠ 0 ∨ Int32.ofInt (sS (an_n (yd_a Y i)) (an_h (yd_a Y i)) (anP (yd_a Y i))) ≠ 0) → s0 = 1 := fun hz => by
    rcases es with ⟨_, e2⟩ | ⟨e1, _⟩
    · rw [e2] at hz
      exact absurd hz (fun q => q.elim (fun q => q rfl) (fun q => q rfl))
    · exact e1
  refine i_tl hT hn6 hi (w := 7) (by decide) rfl ?_
  rw [hL 7 (by decide), eE]
  refine i_if (fun k1 => i_tl hT hn6 hi (w := 8) (by decide) rfl ?_) (fun k1 => l_398 hvN hn6 hT hi hL (one (Or.inl k1)) hk)
  rw [hL 8 (by decide), eS]
  refine i_if (fun k2 => ?_) (fun k2 => l_398 hvN hn6 hT hi hL (one (Or.inr k2)) hk)
  have z1 := (ofInt_zero (by omega) (by omega)).mp k1
  have z2 := (ofInt_zero (by omega) (by omega)).mp k2
  refine l_398 hvN hn6 hT hi hL ?_ hk
  rcases es with ⟨e1, _⟩ | ⟨_, e2⟩
  · exact e1
  · exact absurd (per_ne e2) (fun q => q.elim (fun q => q z1) (fun q => q z2))
end Told
