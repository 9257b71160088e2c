/-! the text: its length, its bytes -/
section Len
variable {D : va_G} {L : List Nat} {n : Nat}
/-- bytes of a text, and at most so many -/
def AN (L : List Nat) (n : Nat) : Prop := asc L ∧ L.length ≤ n
theorem AN_l (h : AN L n) {i : Nat} (hi : i < 36) {m : Nat} (hm : sN i ≤ m) : AN (L ++ sTx i) (n + m) := ⟨asc_app h.1 (asc_l hi), by rw [List.length_append, sTx_len i hi]; have := h.2; omega⟩
theorem AN_d (h : AN L n) {m : Nat} (hm : m < 100) : AN (L ++ dgL m) (n + 2) := ⟨asc_app h.1 (dgL_asc hm), by rw [List.length_append]; have := h.2; have := dgL_le (m := m); omega⟩
theorem AN_a (h : AN L n) {S : List Nat} {m : Nat} (hs : asc S ∧ S.length ≤ m) : AN (L ++ S) (n + m) := ⟨asc_app h.1 hs.1, by rw [List.length_append]; have := h.2; have := hs.2; omega⟩
theorem AN_m {m : Nat} (h : AN L n) (hm : n ≤ m) : AN L m := ⟨h.1, Nat.le_trans h.2 hm⟩
theorem sN_t : ∀ t : Nat, t < 8 → sN t ≤ 8 := by decide
theorem AN_T {r : Nat} (h : AN L n) : ∀ k : Nat, AN (txT D r L k) (n + 9 * k) := by
  intro k
  induction k with
  | zero => exact h
  | succ k ih =>
    have ht := zT_b (D := D) (r := r) (k := k)
    exact AN_m (AN_l (AN_l ih (i := 21) (m := 1) (by decide) (by decide)) (i := zT D r k) (m := 8) (by omega) (sN_t _ (by omega))) (by omega)
theorem AN_R : ∀ r : Nat, r ≤ 5 → AN (txR D r) (70 * r) := by
  intro r
  induction r with
  | zero => exact fun _ => ⟨asc_0, Nat.le_refl _⟩
  | succ r ih =>
    intro hr
    have hz := zZ_b (D := D) (r := r)
    exact AN_m (AN_l (AN_T (D := D) (r := r) (AN_d (AN_l (ih (by omega)) (i := 20) (m := 6) (by decide) (by decide)) (m := r) (by omega)) (zZ D r)) (i := 22) (m := 1) (by decide) (by decide)) (by omega)
theorem AN_A : ∀ a : Nat, a ≤ 5 → AN (txA D a) (210 + 50 * a) := by
  intro a
  induction a with
  | zero => exact fun _ => AN_m (AN_R (D := D) (zR D) (by have := zR_b (D := D); omega)) (by have := zR_b (D := D); omega)
  | succ a ih =>
    intro ha
    have hr := zAr_b (D := D) (a := a)
    have hR := zR_b (D := D)
    have hx := zAx_b (D := D) (a := a)
    have hy := zAy_b (D := D) (a := a)
    have hs := zAs_b (D := D) (a := a)
    exact AN_m (AN_l (AN_l (AN_l (AN_d (AN_l (AN_d (AN_l (AN_d (AN_l (AN_d (AN_l (ih (by omega)) (i := 23) (m := 5) (by decide) (by decide)) (m := a) (by omega)) (i := 24) (m := 5) (by decide) (by decide)) (m := zAr D a) (by omega)) (i := 25) (m := 4) (by decide) (by decide)) (m := zAx D a) (by omega)) (i := 21) (m := 1) (by decide) (by decide)) (m := zAy D a) (by omega)) (i := 26) (m := 7) (by decide) (by decide)) (i := 4 + zAs D a) (m := 8) (by omega) (sN_t _ (by omega))) (i := 27) (m := 2) (by decide) (by decide)) (by omega)
theorem AN_P : ∀ j : Nat, AN (txP D j) (460 + 20 * j) := by
  intro j
  induction j with
  | zero => exact AN_m (AN_A (D := D) (zN D) zN_b.2) (by have := zN_b (D := D); omega)
  | succ j ih =>
    have hx := zPc_b (D := D) (k := zPn D - j)
    have hy := zPr_b (D := D) (k := zPn D - j)
    have hv := zPv_b (D := D) (k := zPn D - j)
    exact AN_m (AN_l (AN_d (AN_l (AN_d (AN_l (AN_d (AN_l ih (i := 28) (m := 6) (by decide) (by decide)) (m := zPc D (zPn D - j)) (by omega)) (i := 21) (m := 1) (by decide) (by decide)) (m := zPr D (zPn D - j)) (by omega)) (i := 21) (m := 1) (by decide) (by decide)) (m := zPv D (zPn D - j)) (by omega)) (i := 22) (m := 1) (by decide) (by decide)) (by omega)
theorem AN_O : ∀ k : Nat, AN (txO D k) (620 + 90 * k) := by
  intro k
  induction k with
  | zero => exact AN_m (AN_P (D := D) (zPn D)) (by have := zPn_b (D := D); omega)
  | succ k ih =>
    obtain ⟨s1, s2, s3, s4, s5, s6⟩ := zO_s (D := D) (k := zOn D - k)
    exact AN_m (AN_l (AN_a (AN_l (AN_a ih (S := txH (zQ D k)) (m := 40) (txH_ok s1 s2 s3)) (i := 35) (m := 6) (by decide) (by decide)) (S := txS (zQ D k)) (m := 40) (txS_ok s5 s6)) (i := 27) (m := 2) (by decide) (by decide)) (by omega)
end Len
/-! four bytes in a number -/
theorem byN_n (v : Int32) : ∀ i : Nat, i < 4 → byN v i = v.toBitVec.toNat / 2 ^ (24 - 8 * i) % 256 := by
  intro i hi
  obtain ⟨h1, h2⟩ := byN_ok v i
  have e : (byI v i).toBitVec = (v.toBitVec >>> (24 - 8 * i)) &&& 255#32 := by
    match i, hi with
    | 0, _ => rfl
    | 1, _ => rfl
    | 2, _ => rfl
    | 3, _ => rfl
  rw [h2] at e
  have e2 := congrArg BitVec.toNat e
  rw [BitVec.toNat_and, BitVec.toNat_ushiftRight, Nat.shiftRight_eq_div_pow] at e2
  have e3 : (zn (byN v i)).toBitVec.toNat = byN v i := by
    show byN v i % 2 ^ 32 = byN v i
    exact Nat.mod_eq_of_lt (by omega)
  rw [e3] at e2
  rw [e2]
  show _ &&& (2 ^ 8 - 1) = _
  rw [Nat.and_two_pow_sub_one_eq_mod]
theorem sh8 (v : Int32) {c : Nat} (hc : c < 256) : ((v <<< ((8 : Int32) &&& 31)) ||| zn c).toBitVec.toNat = v.toBitVec.toNat % 2 ^ 24 * 256 + c := by
  have e1 : (v <<< ((8 : Int32) &&& 31)).toBitVec = v.toBitVec <<< 8 := by
    rw [Int32.toBitVec_shiftLeft]
    rfl
  rw [Int32.toBitVec_or, e1, BitVec.toNat_or, BitVec.toNat_shiftLeft]
  have e2 : (zn c).toBitVec.toNat = c := by
    show c % 2 ^ 32 = c
    exact Nat.mod_eq_of_lt (by omega)
  have e3 : v.toBitVec.toNat <<< 8 % 2 ^ 32 = (v.toBitVec.toNat % 2 ^ 24) <<< 8 := by
    rw [Nat.shiftLeft_eq, Nat.shiftLeft_eq]
    omega
  rw [e2, e3, ← Nat.shiftLeft_add_eq_or_of_lt (show c < 2 ^ 8 by omega), Nat.shiftLeft_eq]
/-- the low m bytes of v are these -/
def PB (v : Int32) (m : Nat) (c : Nat → Nat) : Prop := ∀ i, i < m → byN v (4 - m + i) = c i
theorem PB_s {v : Int32} {m b : Nat} {c : Nat → Nat} (h : PB v m c) (hm : m < 4) (hb : b < 256) (hc : c m = b) : PB ((v <<< ((8 : Int32) &&& 31)) ||| zn b) (m + 1) c := by
  intro i hi
  have e := sh8 v hb
  rw [byN_n _ _ (by omega), e]
  by_cases q : i = m
  · rw [q, show 4 - (m + 1) + m = 3 by omega, hc]
    show (v.toBitVec.toNat % 2 ^ 24 * 256 + b) / 1 % 256 = b
    omega
  · have h1 := h i (by omega)
    rw [byN_n _ _ (by omega)] at h1
    rw [← h1]
    generalize v.toBitVec.toNat = N
    obtain ⟨j, hj, e1, e2⟩ : ∃ j, j < 3 ∧ 4 - (m + 1) + i = j ∧ 4 - m + i = j + 1 := ⟨3 - m + i, by omega, by omega, by omega⟩
    rw [e1, e2]
    rcases (show j = 0 ∨ j = 1 ∨ j = 2 by omega) with rfl | rfl | rfl
    · show (N % 16777216 * 256 + b) / 16777216 % 256 = N / 65536 % 256
      omega
    · show (N % 16777216 * 256 + b) / 65536 % 256 = N / 256 % 256
      omega
    · show (N % 16777216 * 256 + b) / 256 % 256 = N / 1 % 256
      omega
