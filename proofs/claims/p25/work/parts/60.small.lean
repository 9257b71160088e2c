section Small
variable {ad : Nat → Nat} {M : mS}
theorem wI_ne (hA : Inj ad) {a b i j : Nat} {v : Int32} (h : b ≠ a ∨ j ≠ i) : mI (wI M (ad a) i v) (ad b) j = mI M (ad b) j := by
  rw [mI_wI]
  by_cases e : b = a
  · subst e
    rw [if_pos rfl, upd_at, if_neg (h.resolve_left (fun q => q rfl))]
  · rw [if_neg (ad_ne hA e)]
theorem wI_eq {a i : Nat} {v : Int32} : mI (wI M (ad a) i v) (ad a) i = v := by rw [mI_wI, if_pos rfl, upd_at, if_pos rfl]
theorem getD_app {α : Type} {a b : List α} {j : Nat} {d : α} : (a ++ b).getD (a.length + j) d = b.getD j d := by
  simp [List.getD, List.getElem?_append_right (Nat.le_add_right _ _)]
theorem zn_top {k : Nat} : zn (k + 1) - 1 = zn k := zn_sub (a := k + 1) (b := 1) (by omega)
end Small
