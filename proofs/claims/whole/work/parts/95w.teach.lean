/-! both learn a list -/
section Teach2
variable {G : gS} {ad : Nat → Nat} {M : mS} {T : Nat → Nat} {tl b : Nat} {Y : aY} {P : aP} {ea : Int32}
theorem AK_wt (hS : Sh G ad) (hU : Us G ad) (hG : wt G) : AK G ad := by
  obtain ⟨a1, a2⟩ := hG (ad 0) (hU.1 0 (by decide)) 3 (ad 38) (sh_x3 hS)
  rw [hU.2] at a2
  obtain ⟨b1, b2⟩ := hG (ad 38) a1 3 (ad 42) (sh_Y38 hS).2.2.2.1
  rw [a2] at b2
  intro i hi
  obtain ⟨c1, c2⟩ := hG (ad 42) b1 i (ad (38 + 5 + 2 * i)) ((sh_Y38 hS).2.2.2.2.1 i hi)
  rw [b2] at c2
  refine ⟨c1, c2.trans ?_⟩
  rcases (show i = 0 ∨ i = 1 ∨ i = 2 ∨ i = 3 ∨ i = 4 ∨ i = 5 by omega) with rfl | rfl | rfl | rfl | rfl | rfl <;> decide
theorem ok_2 (hA : Inj ad) (hS : Sh G ad) (hU : Us G ad) (hG : wt G) (hv : vY b Y) (hr : vR P Y) (hvP : vP (yd_n Y) P) (htl : tl ≤ 2000) (hT : ∀ k, k < tl → T k < 256) (hc : CA ad M Y P T tl ea) (hm : MA ad M Y P T tl ea) {post : gS → mS → Prop} (H : ∀ (G' : gS) (ad' : Nat → Nat) (M' : mS) (Y' : aY) (P' : aP) (ea' : Int32), Inj ad' → ad' 0 = ad 0 → ad' 70 = ad 70 → ad' 105 = ad 105 → Sh G' ad' → Us G' ad' → vY b Y' → vR P' Y' → vP (yd_n Y') P' → CA ad' M' Y' P' T 0 ea' → MA ad' M' Y' P' T 0 ea' → post G' M') : fc_2 G M (ad 0) (ad 70) (ad 105) post := by
  unfold fc_2
  refine c_mono (c_teach hA hS (AK_wt hS hU hG) htl hT hv.2.1 hc) ?_
  rintro M1 r ⟨rfl, hc1, F1⟩
  have hm1 : MA ad M1 Y P T tl ea := MA_Fr hA hm F1 (Or.inl (by decide))
  refine n_teach hA hS hU htl hT hm1 (fun G' ad' M' iA he iS iU im iv ik => q_t rfl ?_)
  have val : vY b (tcY T tl Y) ∧ vR (tcP T tl P) (tcY T tl Y) ∧ vP (yd_n (tcY T tl Y)) (tcP T tl P) := by
    unfold tcY tcP
    by_cases g : tcE T tl = 0
    · rw [if_pos g, if_pos g]
      obtain ⟨⟨⟨z1, z0⟩, z2, z3⟩, ⟨v1, v2, v3, v4⟩, o4, y1, y2, y3⟩ := iv g
      exact ⟨⟨y2, v4, fun i hi => ⟨(y3 i hi).2, by rw [(y3 i hi).1.2.2]; exact Nat.zero_le _⟩⟩, z2, v1, fun r hr => ⟨z1 r hr, v2 r hr⟩, z0, v3, o4, fun k hk => z3 k hk _ (Nat.le_refl _)⟩
    · rw [if_neg g, if_neg g]
      exact ⟨hv, hr, hvP⟩
  obtain ⟨w1, w2, w3⟩ := val
  refine H G' ad' M' _ _ _ iA (he 0 (by decide) (by decide)) (he 70 (by decide) (by decide)) (he 105 (by decide) (by decide)) iS iU w1 w2 w3 ?_ im
  have hc2 : CA ad' M1 (tcY T tl Y) (tcP T tl P) T 0 (tcA T tl) := CA_ad hc1 w1.2.1 (fun k hk => he k (by omega) (by unfold usd; omega))
  have kk : ∀ k, k < 66 → mI M' (ad' k) = mI M1 (ad' k) ∧ mJ M' (ad' k) = mJ M1 (ad' k) := fun k hk => by
    rw [(ik k hk).1, (ik k hk).2, he k (by omega) (by unfold usd; omega)]
    exact ⟨rfl, rfl⟩
  exact CA_keep w1.2.1 hc2 (fun k hk => (kk k (by omega)).1) (kk 59 (by decide)).2
end Teach2
