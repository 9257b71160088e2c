/-! the literals' texts -/
def sTx (n : Nat) : List Nat := (sByt.getD n []).map (fun v => v.toNatClampNeg)
theorem str_all : ∀ n : Nat, n < 36 → sN n = (sTx n).length ∧ (∀ k : Nat, k < (sTx n).length → sB n k = zn ((sTx n).getD k 0)) ∧ ∀ k : Nat, k < (sTx n).length → (sTx n).getD k 0 < 128 := by decide +kernel
theorem str_ok {n : Nat} (h : n < 36) : STR n (sTx n) := str_all n h
