/-! the mirrors alone: rules -/
section PureRules
theorem c_rf {α : Type} {r : Option Nat} {q : Nat} {k : Nat → Option (mS × α)} {Q : mS → α → Prop} (h : r = some q) (H : p_cl (k q) Q) : p_cl (o_rf r k) Q := by subst h; exact H
theorem c_ix {α : Type} {i : Int32} {n : Nat} {k : Option (mS × α)} {Q : mS → α → Prop} (h : vp_in i n) (H : p_cl k Q) : p_cl (o_ix i n k) Q := by unfold o_ix; rw [if_neg h]; exact H
theorem c_ck {α : Type} {c : Prop} [Decidable c] {k : Option (mS × α)} {Q : mS → α → Prop} (h : c) (H : p_cl k Q) : p_cl (o_ck c k) Q := by unfold o_ck; rw [if_pos h]; exact H
theorem c_wI {α : Type} {M : mS} {a j : Nat} {v : Int32} {k : mS → Option (mS × α)} {Q : mS → α → Prop} (H : p_cl (k (wI M a j v)) Q) : p_cl (o_wI M a j v k) Q := H
theorem c_wJ {α : Type} {M : mS} {a j : Nat} {v : Int64} {k : mS → Option (mS × α)} {Q : mS → α → Prop} (H : p_cl (k (wJ M a j v)) Q) : p_cl (o_wJ M a j v k) Q := H
theorem c_wC {α : Type} {M : mS} {a : Nat} {f : Nat → Int32} {k : mS → Option (mS × α)} {Q : mS → α → Prop} (H : p_cl (k (wC M a f)) Q) : p_cl (o_wC M a f k) Q := H
theorem c_bd {α β : Type} {e : β} {k : β → Option (mS × α)} {Q : mS → α → Prop} (H : p_cl (k e) Q) : p_cl (o_bd e k) Q := H
theorem c_cl {α β : Type} {x : Option (mS × β)} {k : mS → β → Option (mS × α)} {Q : mS → α → Prop} (H : p_cl x (fun M r => p_cl (k M r) Q)) : p_cl (o_cl x k) Q := by
  obtain ⟨M1, r, e, h⟩ := H
  subst e
  exact h
theorem c_some {α : Type} {M : mS} {r : α} {Q : mS → α → Prop} (H : Q M r) : p_cl (some (M, r)) Q := ⟨M, r, rfl, H⟩
theorem c_t {α : Type} {c : Prop} [Decidable c] {x y : Option (mS × α)} {Q : mS → α → Prop} (h : c) (H : p_cl x Q) : p_cl (if c then x else y) Q := by rw [if_pos h]; exact H
theorem c_f {α : Type} {c : Prop} [Decidable c] {x y : Option (mS × α)} {Q : mS → α → Prop} (h : ¬ c) (H : p_cl y Q) : p_cl (if c then x else y) Q := by rw [if_neg h]; exact H
theorem c_if {α : Type} {c : Prop} [Decidable c] {x y : Option (mS × α)} {Q : mS → α → Prop} (H1 : c → p_cl x Q) (H2 : ¬ c → p_cl y Q) : p_cl (if c then x else y) Q := by
  by_cases h : c
  · exact c_t h (H1 h)
  · exact c_f h (H2 h)
theorem c_mono {α : Type} {x : Option (mS × α)} {Q Q' : mS → α → Prop} (h : p_cl x Q) (H : ∀ M r, Q M r → Q' M r) : p_cl x Q' := by
  obtain ⟨M1, r, e, h⟩ := h
  exact ⟨M1, r, e, H _ _ h⟩
theorem c_clm {α β : Type} {x : Option (mS × β)} {k : mS → β → Option (mS × α)} {P : mS → β → Prop} {Q : mS → α → Prop} (h : p_cl x P) (H : ∀ M r, P M r → p_cl (k M r) Q) : p_cl (o_cl x k) Q := c_cl (c_mono h H)
end PureRules
/-! numbers -/
abbrev zn (n : Nat) : Int32 := Int32.ofNat n
theorem zn_toInt {n : Nat} (h : n < 2147483648) : (zn n).toInt = n := Int32.toInt_ofNat_of_lt h
theorem zn_add (a b : Nat) : zn a + zn b = zn (a + b) := (Int32.ofNat_add a b).symm
theorem zn_one (a : Nat) : zn a + 1 = zn (a + 1) := zn_add a 1
theorem zn_mul (a b : Nat) : zn a * zn b = zn (a * b) := (Int32.ofNat_mul a b).symm
theorem zn_inj {a b : Nat} (ha : a < 2147483648) (hb : b < 2147483648) : zn a = zn b ↔ a = b := by
  constructor
  · intro h
    have h1 := congrArg Int32.toInt h
    rw [zn_toInt ha, zn_toInt hb] at h1
    omega
  · intro h; rw [h]
theorem zn_le {a b : Nat} (ha : a < 2147483648) (hb : b < 2147483648) : zn a ≤ zn b ↔ a ≤ b := by
  rw [Int32.le_iff_toInt_le, zn_toInt ha, zn_toInt hb]; omega
theorem zn_lt {a b : Nat} (ha : a < 2147483648) (hb : b < 2147483648) : zn a < zn b ↔ a < b := by
  rw [Int32.lt_iff_toInt_lt, zn_toInt ha, zn_toInt hb]; omega
theorem zn_nat {a : Nat} (ha : a < 2147483648) : (zn a).toNatClampNeg = a := by
  rw [Int32.toNatClampNeg, zn_toInt ha]; omega
theorem zn_nn {a : Nat} (ha : a < 2147483648) : ¬ zn a < 0 := by
  rw [Int32.lt_iff_toInt_lt, zn_toInt ha, show (0 : Int32).toInt = 0 from rfl]; omega
theorem zn_in {a n : Nat} (ha : a < n) (hn : n ≤ 2147483648) : vp_in (zn a) n := by
  rintro (h | h)
  · exact zn_nn (by omega) h
  · rw [zn_nat (by omega)] at h; omega
theorem zn_sub {a b : Nat} (h : b ≤ a) : zn a - zn b = zn (a - b) := by
  have : zn a = zn (a - b) + zn b := by rw [zn_add]; congr 1; omega
  rw [this]
  exact Int32.add_sub_cancel _ _
theorem I32_nat {v : Int32} (h : ¬ v < 0) : ∃ n : Nat, n < 2147483648 ∧ v = zn n := by
  refine ⟨v.toNatClampNeg, ?_, ?_⟩
  · have := v.toInt_lt
    rw [Int32.toNatClampNeg]; omega
  · rw [← Int32.toInt_inj, zn_toInt]
    · rw [Int32.lt_iff_toInt_lt, show (0 : Int32).toInt = 0 from rfl] at h
      rw [Int32.toNatClampNeg]; omega
    · have := v.toInt_lt
      rw [Int32.toNatClampNeg]; omega
/-! rows of the memory -/
theorem mI_wI {M : mS} {a j b : Nat} {v : Int32} : mI (wI M a j v) b = if b = a then upd (mI M a) j v else mI M b := rfl
theorem mI_wC {M : mS} {a b : Nat} {f : Nat → Int32} : mI (wC M a f) b = if b = a then f else mI M b := rfl
theorem mJ_wC {M : mS} {a b : Nat} {f : Nat → Int32} : mJ (wC M a f) b = mJ M b := rfl
theorem mJ_wJ {M : mS} {a j b : Nat} {v : Int64} : mJ (wJ M a j v) b = if b = a then vp_updL (mJ M a) j v else mJ M b := rfl
theorem upd_at {f : Nat → Int32} {j k : Nat} {v : Int32} : upd f j v k = if k = j then v else f k := rfl
theorem updL_at {f : Nat → Int64} {j k : Nat} {v : Int64} : vp_updL f j v k = if k = j then v else f k := rfl
