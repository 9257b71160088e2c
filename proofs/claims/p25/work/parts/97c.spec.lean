/-! what the script chooses: cells, rules, ants, stones, orders -/
def clD (D : va_G) (k : Nat) : Int32 := if xL D ≤ k then (790386105 : Int32) * (zn k + 3) else xS D k
theorem s_cellD {D : va_G} {b : uS} {G : gS} {M : mS} {post : gS → mS → Int32 → Prop} (hX : xL D ≤ 260) {k : Nat} {c : Int32} (hc : c = zn k) (hk : k < 1000) (H : post G M (clD D k)) : n_L_cell D b G M c post := by
  subst hc
  unfold n_L_cell nb_L_cell_18
  refine i_if (fun z => ?_) (fun z => ?_)
  · have h1 : xL D ≤ k := (zn_le (by omega) (by omega)).mp z
    have e : clD D k = (790386105 : Int32) * (zn k + 3) := if_pos h1
    rw [e] at H
    exact H
  · have h1 : ¬ xL D ≤ k := fun z2 => z ((zn_le (by omega) (by omega)).mpr z2)
    have e : clD D k = xS D k := if_neg h1
    rw [e] at H
    refine i_ix (zn_in (by omega) (by omega)) ?_
    rw [zn_nat (by omega)]
    exact H
def zR (D : va_G) : Nat := 1 + bwN (clD D 0) % 3
def zZ (D : va_G) (r : Nat) : Nat := 2 + bwN (clD D (1 + r)) % 5
def zT (D : va_G) (r k : Nat) : Nat := bwN (clD D (1 + r) >>> ((((2 : Int32) * zn k) + (3 : Int32)) &&& 31)) % 4
def zN (D : va_G) : Nat := 1 + bwN (clD D 4) % 5
def zX (D : va_G) (a : Nat) : Int32 := clD D (5 + a) + ((7 : Int32) * zn a)
def zAr (D : va_G) (a : Nat) : Nat := bwN (zX D a) % zR D
def zAx (D : va_G) (a : Nat) : Nat := (30 + bwN (zX D a >>> ((3 : Int32) &&& 31)) % 8 * (if bwN (zX D a) % 3 = 0 then 8 else 1)) % 64
def zAy (D : va_G) (a : Nat) : Nat := (30 + bwN (zX D a >>> ((6 : Int32) &&& 31)) % 8 * (if bwN (zX D a) % 5 = 0 then 8 else 1)) % 64
def zAs (D : va_G) (a : Nat) : Nat := bwN (zX D a >>> ((9 : Int32) &&& 31)) % 4
def zPn (D : va_G) : Nat := bwN (clD D 10) % 9
def zPx (D : va_G) (k : Nat) : Int32 := clD D 11 + ((97 : Int32) * zn k)
def zPc (D : va_G) (k : Nat) : Nat := (28 + bwN (zPx D k >>> ((2 : Int32) &&& 31)) % 12) % 64
def zPr (D : va_G) (k : Nat) : Nat := (28 + bwN (zPx D k >>> ((5 : Int32) &&& 31)) % 12) % 64
def zPv (D : va_G) (k : Nat) : Nat := bwN (zPx D k >>> ((7 : Int32) &&& 31)) % 6
def zOn (D : va_G) : Nat := bwN (clD D 12) % 6
def zOx (D : va_G) (k : Nat) : Int32 := (clD D 13 >>> (zn k &&& 31)) + ((61 : Int32) * zn k)
def zOa (D : va_G) (k : Nat) : Nat := bwN (zOx D k >>> ((3 : Int32) &&& 31)) % zN D
def zO0 (D : va_G) (k : Nat) : Nat := bwN (zOx D k) % 4
def zOf (D : va_G) (k : Nat) : Nat := 24 + bwN (zOx D k >>> ((4 : Int32) &&& 31)) % 16
def zO1 (D : va_G) (k : Nat) : Nat := if zO0 D k = 0 then zOf D k else zOa D k
def zO2 (D : va_G) (k : Nat) : Nat := if zO0 D k = 0 then (if zOf D k + bwN (zOx D k >>> ((6 : Int32) &&& 31)) % 30 < 63 then zOf D k + bwN (zOx D k >>> ((6 : Int32) &&& 31)) % 30 else 63) else bwN (zOx D k >>> ((5 : Int32) &&& 31)) % 4
def zO3 (D : va_G) (k : Nat) : Nat := bwN (zOx D k >>> ((7 : Int32) &&& 31)) % 5
def zO4 (D : va_G) (k : Nat) : Nat := if zO3 D k = 0 then bwN (zOx D k >>> ((2 : Int32) &&& 31)) % 30 else if zO3 D k = 1 then 2 + bwN (zOx D k >>> ((2 : Int32) &&& 31)) % 9 else if zO3 D k = 4 then 28 + bwN (zOx D k >>> ((2 : Int32) &&& 31)) % 12 else bwN (zOx D k >>> ((8 : Int32) &&& 31)) % zN D
def zO5 (D : va_G) (k : Nat) : Nat := if zO3 D k = 1 then bwN (zOx D k >>> ((6 : Int32) &&& 31)) % zO4 D k else if zO3 D k = 2 then 26 + bwN (zOx D k >>> ((2 : Int32) &&& 31)) % 12 else if zO3 D k = 4 then bwN (zOx D k >>> ((9 : Int32) &&& 31)) % zN D else 0
def zO (D : va_G) (k j : Nat) : Nat := if j = 0 then zO0 D k else if j = 1 then zO1 D k else if j = 2 then zO2 D k else if j = 3 then zO3 D k else if j = 4 then zO4 D k else zO5 D k
/-- rows of orders, in their order -/
def zQ (D : va_G) (k j : Nat) : Nat := zO D (zOn D - k) j
section Zb
variable {D : va_G} {k a r : Nat}
theorem zR_b : 1 ≤ zR D ∧ zR D ≤ 3 := by unfold zR; omega
theorem zZ_b : 2 ≤ zZ D r ∧ zZ D r ≤ 6 := by unfold zZ; omega
theorem zT_b : zT D r k < 4 := Nat.mod_lt _ (by decide)
theorem zN_b : 1 ≤ zN D ∧ zN D ≤ 5 := by unfold zN; omega
theorem zAr_b : zAr D a < zR D := Nat.mod_lt _ (by have := zR_b (D := D); omega)
theorem zAx_b : zAx D a < 64 := Nat.mod_lt _ (by decide)
theorem zAy_b : zAy D a < 64 := Nat.mod_lt _ (by decide)
theorem zAs_b : zAs D a < 4 := Nat.mod_lt _ (by decide)
theorem zPn_b : zPn D < 9 := Nat.mod_lt _ (by decide)
theorem zPc_b : zPc D k < 64 := Nat.mod_lt _ (by decide)
theorem zPr_b : zPr D k < 64 := Nat.mod_lt _ (by decide)
theorem zPv_b : zPv D k < 6 := Nat.mod_lt _ (by decide)
theorem zOn_b : zOn D < 6 := Nat.mod_lt _ (by decide)
theorem zOa_b : zOa D k < zN D := Nat.mod_lt _ (by have := zN_b (D := D); omega)
theorem zO0_b : zO0 D k < 4 := Nat.mod_lt _ (by decide)
theorem zOf_b : 24 ≤ zOf D k ∧ zOf D k < 40 := by unfold zOf; omega
theorem zO1_b : (zO0 D k = 0 → zO1 D k = zOf D k) ∧ (zO0 D k ≠ 0 → zO1 D k < zN D) := by
  unfold zO1
  refine ⟨fun h => by rw [if_pos h], fun h => by rw [if_neg h]; exact zOa_b⟩
theorem zO2_b : (zO0 D k = 0 → zO1 D k ≤ zO2 D k ∧ zO2 D k < 64 ∧ zO2 D k + 1 - zO1 D k ≤ 30) ∧ (zO0 D k ≠ 0 → zO2 D k < 4) := by
  have h1 := zOf_b (D := D) (k := k)
  have h2 : bwN (zOx D k >>> ((6 : Int32) &&& 31)) % 30 < 30 := Nat.mod_lt _ (by decide)
  unfold zO2
  refine ⟨fun h => ?_, fun h => by rw [if_neg h]; exact Nat.mod_lt _ (by decide)⟩
  rw [if_pos h, zO1_b.1 h]
  split <;> omega
theorem zO3_b : zO3 D k < 5 := Nat.mod_lt _ (by decide)
theorem zO4_b : (zO3 D k = 0 → zO4 D k < 30) ∧ (zO3 D k = 1 → 2 ≤ zO4 D k ∧ zO4 D k ≤ 10) ∧ (zO3 D k = 4 → 28 ≤ zO4 D k ∧ zO4 D k < 40) ∧ (zO3 D k = 2 ∨ zO3 D k = 3 → zO4 D k < zN D) := by
  have n1 := zN_b (D := D)
  unfold zO4
  refine ⟨fun h => ?_, fun h => ?_, fun h => ?_, fun h => ?_⟩
  · rw [if_pos h]; omega
  · rw [if_neg (by omega), if_pos h]; omega
  · rw [if_neg (by omega), if_neg (by omega), if_pos h]; omega
  · rw [if_neg (by omega), if_neg (by omega), if_neg (by omega)]
    exact Nat.mod_lt _ (by omega)
theorem zO5_b : (zO3 D k = 1 → zO5 D k < 10) ∧ (zO3 D k = 2 → 26 ≤ zO5 D k ∧ zO5 D k < 38) ∧ (zO3 D k = 4 → zO5 D k < zN D) ∧ (zO3 D k = 0 ∨ zO3 D k = 3 → zO5 D k = 0) := by
  have n1 := zN_b (D := D)
  have h4 := (zO4_b (D := D) (k := k)).2.1
  unfold zO5
  refine ⟨fun h => ?_, fun h => ?_, fun h => ?_, fun h => ?_⟩
  · rw [if_pos h]
    have := Nat.mod_lt (bwN (zOx D k >>> ((6 : Int32) &&& 31))) (show 0 < zO4 D k by have := h4 h; omega)
    have := h4 h
    omega
  · rw [if_neg (by omega), if_pos h]; omega
  · rw [if_neg (by omega), if_neg (by omega), if_pos h]
    exact Nat.mod_lt _ (by omega)
  · rw [if_neg (by omega), if_neg (by omega), if_neg (by omega)]
theorem zO4_s : zO4 D k < 64 := by
  have h := zO4_b (D := D) (k := k)
  have n1 := zN_b (D := D)
  have h3 := zO3_b (D := D) (k := k)
  omega
theorem zO5_s : zO5 D k < 64 := by
  have h := zO5_b (D := D) (k := k)
  have n1 := zN_b (D := D)
  have h3 := zO3_b (D := D) (k := k)
  omega
theorem zQ_W : vW (zN D) (zQ D k) := by
  have h0 := zO0_b (D := D) (k := zOn D - k)
  have h1 := zO1_b (D := D) (k := zOn D - k)
  have h2 := zO2_b (D := D) (k := zOn D - k)
  show (zO0 D (zOn D - k) = 0 ∧ zO1 D (zOn D - k) ≤ zO2 D (zOn D - k) ∧ zO2 D (zOn D - k) < 64) ∨ (zO0 D (zOn D - k) = 1 ∧ zO1 D (zOn D - k) < zN D ∧ zO2 D (zOn D - k) < 4) ∨ ((zO0 D (zOn D - k) = 2 ∨ zO0 D (zOn D - k) = 3) ∧ zO1 D (zOn D - k) < zN D)
  by_cases e : zO0 D (zOn D - k) = 0
  · have := h2.1 e
    exact Or.inl ⟨e, this.1, this.2.1⟩
  · have := h2.2 e
    have := h1.2 e
    by_cases e1 : zO0 D (zOn D - k) = 1
    · exact Or.inr (Or.inl ⟨e1, by omega, by omega⟩)
    · exact Or.inr (Or.inr ⟨by omega, by omega⟩)
theorem zQ_T : vT (zN D) (zQ D k) := by
  have h3 := zO3_b (D := D) (k := zOn D - k)
  have h4 := zO4_b (D := D) (k := zOn D - k)
  have h5 := zO5_b (D := D) (k := zOn D - k)
  show zO3 D (zOn D - k) < 5 ∧ zO4 D (zOn D - k) < 64 ∧ zO5 D (zOn D - k) < 64 ∧ (zO3 D (zOn D - k) = 1 → 0 < zO4 D (zOn D - k)) ∧ (zO3 D (zOn D - k) = 2 → zO4 D (zOn D - k) < zN D) ∧ (zO3 D (zOn D - k) = 3 → zO4 D (zOn D - k) < zN D) ∧ (zO3 D (zOn D - k) = 4 → zO5 D (zOn D - k) < zN D)
  refine ⟨h3, zO4_s, zO5_s, fun h => ?_, fun h => ?_, fun h => ?_, fun h => ?_⟩
  · have := h4.2.1 h; omega
  · exact h4.2.2.2 (Or.inl h)
  · exact h4.2.2.2 (Or.inr h)
  · exact h5.2.2.1 h
end Zb
/-- kinds by their last bits -/
theorem bw_mod4 (v : Int32) : ((bwN v % 4 : Nat) : Int) = v.toInt % 4 := by
  have h1 : bwN v = v.toBitVec.toNat % 2 ^ 31 := by
    unfold bwN
    have e : (v &&& (2147483647 : Int32)) = zn (v.toBitVec.toNat % 2 ^ 31) := by
      rw [← Int32.toBitVec_inj, Int32.toBitVec_and]
      refine BitVec.eq_of_toNat_eq ?_
      rw [BitVec.toNat_and]
      show v.toBitVec.toNat &&& (2 ^ 31 - 1) = (v.toBitVec.toNat % 2 ^ 31) % 2 ^ 32
      rw [Nat.and_two_pow_sub_one_eq_mod]
      omega
    rw [e, zn_nat (by omega)]
  have h2 : v.toInt = if 2 * v.toBitVec.toNat < 2 ^ 32 then (v.toBitVec.toNat : Int) else (v.toBitVec.toNat : Int) - (2 ^ 32 : Nat) := BitVec.toInt_eq_toNat_cond _
  have h3 := v.toBitVec.isLt
  rw [h1, h2]
  split <;> omega
theorem sh_mod4 {v : Int32} {k : Nat} (hk : k < 32) : (v >>> (zn k &&& 31)).toInt = v.toInt / ((2 ^ k : Nat) : Int) := by
  have e : (zn k &&& 31) = zn k := by
    rw [show (31 : Int32) = zn (2 ^ 5 - 1) from rfl, zn_and_mod]
    congr 1
    omega
  rw [e]
  show (v >>> zn k).toBitVec.toInt = _
  rw [Int32.toBitVec_shiftRight, BitVec.sshiftRight_eq']
  have e2 : ((zn k).toBitVec.smod 32).toNat = k := by
    have : ∀ j : Nat, j < 32 → ((zn j).toBitVec.smod 32).toNat = j := by decide +kernel
    exact this k hk
  rw [e2, BitVec.toInt_sshiftRight, Int.shiftRight_eq_div_pow]
  rfl
theorem add_mod4 (a b : Int32) : (a + b).toInt % 4 = (a.toInt + b.toInt) % 4 := by
  rw [Int32.toInt_add]
  have := Int.bmod_emod (x := a.toInt + b.toInt) (m := 2 ^ 32)
  omega
theorem zO0_m {D : va_G} {k : Nat} (hk : k < 10) : ((zO0 D k : Nat) : Int) = ((clD D 13).toInt / ((2 ^ k : Nat) : Int) + 61 * k) % 4 := by
  unfold zO0 zOx
  rw [bw_mod4, add_mod4, sh_mod4 (by omega)]
  have e : ((61 : Int32) * zn k).toInt = 61 * k := by
    rw [show (61 : Int32) = zn 61 from rfl, zn_mul, zn_toInt (by omega)]
    omega
  rw [e]
