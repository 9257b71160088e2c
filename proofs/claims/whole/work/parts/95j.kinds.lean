/-! the kinds of tokens that operations stand at -/
def kO (kd : Nat → Nat) (L : List sO) : Prop := ∀ o ∈ L, (isA o.1 = true → kd o.2 = 2) ∧ (o.1 = 3 → kd o.2 = 3) ∧ (o.1 = 3 ∨ isA o.1 = true ∨ opc o.1 = 2 ∨ 5 ≤ opc o.1)
section KindO
variable {kd : Nat → Nat}
theorem kO_nil : kO kd [] := fun _ ho => absurd ho List.not_mem_nil
theorem kO_app {L K : List sO} (h : kO kd L) (g : kO kd K) : kO kd (L ++ K) := fun o ho => by
  rcases List.mem_append.mp ho with a | a
  · exact h o a
  · exact g o a
theorem kO_1 {k q : Nat} (h : isA k = false) (h3 : k ≠ 3) (h5 : opc k = 2 ∨ 5 ≤ opc k) : kO kd [(k, q)] := fun o ho => by
  rw [List.mem_singleton.mp ho]
  exact ⟨fun a => by rw [show isA (k, q).1 = isA k from rfl, h] at a; exact absurd a (by decide), fun a => absurd a h3, Or.inr (Or.inr h5)⟩
theorem kO_c {k : Nat} (h : qAdd k = true ∨ qMul k = true ∨ qOr k = true ∨ qAnd k = true ∨ qCmp k = true) : isA k = false ∧ k ≠ 3 ∧ (opc k = 2 ∨ 5 ≤ opc k) := by
  unfold qAdd qMul qOr qAnd qCmp at h
  simp only [Bool.or_eq_true, beq_iff_eq] at h
  rcases (show k = 43 ∨ k = 45 ∨ k = 42 ∨ k = 47 ∨ k = 230 ∨ k = 229 ∨ k = 60 ∨ k = 62 ∨ k = 61 ∨ k = 128 ∨ k = 129 by omega) with rfl | rfl | rfl | rfl | rfl | rfl | rfl | rfl | rfl | rfl | rfl <;> decide
theorem pLoop_kO {R : Nat → rS} (hR : ∀ q, kO kd (R q).2.2) {q : Nat → Bool} (hq : ∀ k, q k = true → isA k = false ∧ k ≠ 3 ∧ (opc k = 2 ∨ 5 ≤ opc k)) : ∀ (f : Nat) (r : rS), kO kd r.2.2 → kO kd (pLoop kd R q f r).2.2 := by
  intro f
  induction f with
  | zero => intro r h; exact h
  | succ f ih =>
    intro r h
    rw [pLoop]
    split
    · next g =>
      rw [Bool.and_eq_true] at g
      have hk := hq _ g.2
      exact ih _ (kO_app h (kO_app (hR _) (kO_1 hk.1 hk.2.1 hk.2.2)))
    · exact h
theorem pAnt_kO {p : Nat} (h3 : kd p ≠ 3) (hA : isA (kd p) = true) : kO kd (pAnt kd p).2.2 := by
  unfold pAnt
  split
  · next g =>
    intro o ho
    rw [List.mem_singleton.mp ho]
    exact ⟨fun _ => g, fun e => absurd e h3, Or.inr (Or.inl hA)⟩
  · exact kO_nil
theorem pGrp_kO {R : Nat → rS} (hR : ∀ q, kO kd (R q).2.2) {d p : Nat} {L : List sO} (hL : kO kd L) : kO kd (pGrp kd R d p L).2.2 := by
  unfold pGrp
  split
  · exact kO_nil
  split
  · split
    · split
      · exact kO_app (hR _) hL
      · exact kO_nil
    · exact kO_nil
  · exact kO_nil
theorem pTwo_kO {R : Nat → rS} (hR : ∀ q, kO kd (R q).2.2) {d p : Nat} {L : List sO} (hL : kO kd L) : kO kd (pTwo kd R d p L).2.2 := by
  unfold pTwo
  split
  · exact kO_nil
  split
  · split
    · split
      · split
        · split
          · exact kO_app (hR _) (kO_app (hR _) hL)
          · exact kO_nil
        · exact kO_nil
      · exact kO_nil
    · exact kO_nil
  · exact kO_nil
theorem pNeg_kO {R : Nat → rS} (hR : ∀ q, kO kd (R q).2.2) {d p k : Nat} (hA : isA k = false) (h3 : k ≠ 3) (h5 : opc k = 2 ∨ 5 ≤ opc k) : kO kd (pNeg R d p k).2.2 := by
  unfold pNeg
  split
  · exact kO_app (hR _) (kO_1 hA h3 h5)
  · exact kO_nil
theorem pz_kO : ∀ (f t d p : Nat), kO kd (pz kd f t d p).2.2 := by
  intro f
  induction f with
  | zero => intro t d p; exact kO_nil
  | succ f ih =>
    intro t d p
    match t with
    | 0 => exact pLoop_kO (fun q => ih 1 d q) (fun k hk => kO_c (Or.inl hk)) 401 _ (ih 1 d p)
    | 1 => exact pLoop_kO (fun q => ih 2 d q) (fun k hk => kO_c (Or.inr (Or.inl hk))) 401 _ (ih 2 d p)
    | 2 =>
      rw [pz]
      split
      · next h =>
        intro o ho
        rw [List.mem_singleton.mp ho]
        refine ⟨fun a => ?_, fun e => e, ?_⟩
        · have a : isA (kd p) = true := a
          rcases h with h | h | h <;> rw [h] at a <;> exact absurd a (by decide)
        · show kd p = 3 ∨ isA (kd p) = true ∨ opc (kd p) = 2 ∨ 5 ≤ opc (kd p)
          rcases h with h | h | h <;> rw [h] <;> decide
      split
      · next h => exact pAnt_kO (by omega) (by rcases h with h | h | h <;> rw [h] <;> decide)
      split
      · exact pGrp_kO (fun q => ih 0 (d + 1) q) (kO_1 (by decide) (by decide) (by decide))
      split
      · exact pNeg_kO (fun q => ih 2 (d + 1) q) (by decide) (by decide) (by decide)
      split
      · exact pGrp_kO (fun q => ih 0 (d + 1) q) kO_nil
      split
      · next h => exact pTwo_kO (fun q => ih 0 (d + 1) q) (kO_1 (by rcases h with h | h <;> rw [h] <;> decide) (by omega) (by rcases h with h | h <;> rw [h] <;> decide))
      · exact kO_nil
    | 3 => exact pLoop_kO (fun q => ih 4 d q) (fun k hk => kO_c (Or.inr (Or.inr (Or.inl hk)))) 401 _ (ih 4 d p)
    | 4 => exact pLoop_kO (fun q => ih 5 d q) (fun k hk => kO_c (Or.inr (Or.inr (Or.inr (Or.inl hk))))) 401 _ (ih 5 d p)
    | t + 5 =>
      rw [pz]
      split
      · exact pNeg_kO (fun q => ih 5 (d + 1) q) (by decide) (by decide) (by decide)
      split
      · split
        · split
          · split
            · exact ih 3 (d + 1) (p + 1)
            · exact kO_nil
          · exact kO_nil
        · exact kO_nil
      split
      · next h => exact pAnt_kO (by omega) (by rcases h with h | h <;> rw [h] <;> decide)
      split
      · split
        · next h5 =>
          have hk := kO_c (Or.inr (Or.inr (Or.inr (Or.inr h5))))
          exact kO_app (ih 0 d p) (kO_app (ih 0 d _) (kO_1 hk.1 hk.2.1 hk.2.2))
        · exact kO_nil
      · exact kO_nil
      all_goals (intro h; omega)
end KindO
