/-! the reference's second pass: errors of rules, turns, orders -/
section SecE
variable {G : gS} {ad : Nat → Nat} {M : mS} {T : Nat → Nat} {tl p : Nat} {C : List Int32} {O : List Nat} {ro : Nat → Nat} {W : List (Nat × Nat)} {P : aP} {Y : aY} {c : Nat}
/-- the pass's own place stays, and what is meant by other tokens -/
def kp (ad : Nat → Nat) (j : Nat) (M M' : mS) : Prop := mI M' (ad 70) = mI M (ad 70) ∧ ∀ i, i ≠ j → mI M' (ad 76) i = mI M (ad 76) i
theorem kp_rf {j : Nat} : kp ad j M M := ⟨rfl, fun _ _ => rfl⟩
theorem kp_tr {j : Nat} {M1 M2 : mS} (h : kp ad j M M1) (g : kp ad j M1 M2) : kp ad j M M2 := ⟨g.1.trans h.1, fun i q => (g.2 i q).trans (h.2 i q)⟩
theorem kp_x (hA : Inj ad) {j b i : Nat} {v : Int32} (h : b ≠ 70) (h2 : b ≠ 76 ∨ i = j) : kp ad j M (wI M (ad b) i v) := ⟨by rw [mI_wI, if_neg (ad_ne hA (by omega))], fun k q => wI_ne hA (by omega)⟩
/-- what errorOf answers: e the error, and on 0 what it has made -/
def PostE (ad : Nat → Nat) (j : Nat) (M : mS) (x : Option (mS × Int32)) (e : Nat) (K : mS → Prop) : Prop := p_cl x (fun M' v => v = zn e ∧ SFr ad M M' ∧ kp ad j M M' ∧ (e = 0 → K M'))
theorem e_rule (hA : Inj ad) (hS : Sh G ad) (hq : gP G (ad 70) 12 = some (ad 126)) (htl : tl ≤ 2000) (hT : ∀ k, k < tl → T k < 256) (h : ML ad M T tl p C O ro W) (hR : RP ad M P Y c) (h5 : pg_r P ≤ 5) (hro : ∀ j, ro j < 1000) {j : Nat} (hj1 : ro j = 1) (hk : ∀ i, i < j → ro i = 1 → kdT T tl i = 2) (hj : kdT T tl j = 2) {nm : Nat → Nat} (hN : NmR T tl ro 1 j nm (pg_r P)) : PostE ad j M (m_X12_errorOf G M (ad 70) (zn j)) (if ixN nm (keyT T tl j) (pg_r P) 0 = none then (if pg_r P = 5 then 4 else 0) else 2) (fun M' => RP ad M' (pRule P) Y c) := by
  have hn := nT_le (T := T) (tl := tl)
  have qj := kdT_lt (T := T) (tl := tl) (q := j) (by omega)
  unfold m_X12_errorOf
  refine c_rf hq (c_rf (sh_m7 hS) (c_ix (by rw [sh_mn7 hS]; exact zn_in (by omega) (by decide)) ?_))
  rw [zn_nat (show j < 2147483648 by omega), h.1.2.2.2.2 j (by omega), hj1]
  refine c_t rfl ?_
  unfold m_X12_newRule m_X12_newRule_31
  refine c_cl (c_rf hq ?_)
  rw [hR.1.1, show (5 : Int32) = zn 5 from rfl, t_new hS htl hT h hro (by rw [hj1]; exact hk) hj (by rw [hj1]; exact hN) (by omega) (m := 5) (by decide)]
  refine c_cl (c_some (c_rf hq ?_))
  rw [hR.1.1]
  have fr : ∀ v : Int32, SFr ad M (wI M (ad 126) 0 v) ∧ kp ad j M (wI M (ad 126) 0 v) := fun v => ⟨SFr_x hA (by omega), kp_x hA (by decide) (Or.inl (by decide))⟩
  by_cases g : ixN nm (keyT T tl j) (pg_r P) 0 = none
  · rw [if_pos g, if_pos g]
    by_cases g2 : pg_r P = 5
    · rw [if_pos g2, if_pos g2]
      exact c_f (by decide) (c_wI (c_some (c_some ⟨rfl, (fr _).1, (fr _).2, fun q => absurd q (by decide)⟩)))
    · rw [if_neg g2, if_neg g2]
      refine c_t rfl (c_wI (c_some (c_some ⟨rfl, (fr _).1, (fr _).2, fun _ => ?_⟩)))
      rw [zn_one]
      exact RP_rule hA hR (by omega)
  · rw [if_neg g, if_neg g]
    exact c_f (by decide) (c_wI (c_some (c_some ⟨rfl, (fr _).1, (fr _).2, fun q => absurd q (by decide)⟩)))
end SecE
